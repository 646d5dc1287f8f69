section
section TU
variable {G : th_G} {Γ : th_Ga} {H H0 : Heap} {a0 : Nat}
theorem th_RC_mm (hR : th_RC G Γ H) (hno : ∀ a o : Nat, Γ a ≠ (12, o)) {V : Nat → Value} (ho : th_OB G Γ H a0 3 7 V) {b1 b2 b3 b4 : Nat} (v0 : V 0 = .int 10) (v1 : V 1 = .ref b1) (v2 : V 2 = .ref b2) (v3 : V 3 = .ref b3) (v4 : V 4 = .ref b4) (v5 : V 5 = .int 0) {f1 : Nat → Int64} (k1 : th_MA G Γ H b1 1 1024 (fun i => .long (f1 i))) (kz : ∀ i : Nat, i < 1024 → f1 i = -1) (k2 : th_MA G Γ H b2 0 1024 (fun _ => .int 0)) (k3 : th_MA G Γ H b3 0 1024 (fun _ => .int 0)) (k4 : th_MA G Γ H b4 0 512 (fun _ => .int 0))
    (d12 : b1 ≠ b2) (d13 : b1 ≠ b3) (d14 : b1 ≠ b4) (d23 : b2 ≠ b3) (d24 : b2 ≠ b4) (d34 : b3 ≠ b4) (e1 : b1 ≠ a0) (e2 : b2 ≠ a0) (e3 : b3 ≠ a0) (e4 : b4 ≠ a0) : th_RC G (th_up Γ a0 (12, 0)) H := by
  obtain ⟨r1, r2, -, -⟩ := hR
  have hu := ho.1
  obtain ⟨-, cell, q1, q2, q3, q4⟩ := ho
  have hn : ∀ j, j < 7 → th_sl H a0 (G.1.1.2 3 j) = V j := fun j hj => th_sl_at q1 (q4 j hj)
  have hold : ∀ q r o : Nat, th_up Γ a0 (12, 0) q = (r, o) → r ≠ 12 → Γ q = (r, o) := fun q r o h hr => by
    by_cases e : q = a0
    · rw [e, th_up_s] at h
      cases h
      exact absurd rfl hr
    · rw [th_up_n e] at h
      exact h
  have hmm : ∀ a o : Nat, th_up Γ a0 (12, 0) a = (12, o) → a = a0 := fun a o h => by
    by_cases e : a = a0
    · exact e
    · rw [th_up_n e] at h
      exact absurd h (hno a o)
  refine ⟨fun a o ha => r1 a o (hold a 3 o ha (by decide)), fun b o hb => r2 b o (hb.elim (fun w => Or.inl (hold b 18 o w (by decide))) (fun w => Or.inr (hold b 19 o w (by decide)))), fun a o ha => ?_, fun a a' o o' ha ha' => (hmm a o ha).trans (hmm a' o' ha').symm⟩
  cases hmm a o ha
  exact ⟨10, b1, b2, b3, b4, ⟨Or.inl rfl, (hn 0 (by decide)).trans v0, (hn 1 (by decide)).trans v1, (hn 2 (by decide)).trans v2, (hn 3 (by decide)).trans v3, (hn 4 (by decide)).trans v4, ⟨d12, d13, d14, d23, d24, d34⟩, ⟨f1, th_MA_up k1 e1⟩, ⟨fun _ => 0, th_MA_up k2 e2⟩, ⟨fun _ => 0, th_MA_up k3 e3⟩, ⟨fun _ => 0, th_MA_up k4 e4, fun _ => (by decide : 0 ≤ (0 : Int32).toInt ∧ (0 : Int32).toInt < 2 ^ 10)⟩, 0, (hn 5 (by decide)).trans v5, by decide, by decide⟩, fun u hu i x hi hx hn9 => by
    have e9 : th_sl H b1 i = .long (f1 i) := th_sl_at k1.2.2 (arrV_read _ _ (by omega))
    rw [e9] at hx
    exact absurd ((Value.long.inj hx).symm.trans (kz i (by omega))) hn9⟩
theorem th_MR_mm (hno : ∀ a o : Nat, Γ a ≠ (12, o)) {V : Nat → Value} (ho : th_OB G Γ H a0 3 7 V) {b1 b2 b3 b4 : Nat} (v1 : V 1 = .ref b1) (v2 : V 2 = .ref b2) (v3 : V 3 = .ref b3) (v4 : V 4 = .ref b4) {n : Nat} (h1 : n ≤ b1) (h2 : n ≤ b2) (h3 : n ≤ b3) (h4 : n ≤ b4) {q : Nat} (h : th_MR G (th_up Γ a0 (12, 0)) H q) : n ≤ q := by
  obtain ⟨a, o, j, g, j1, j4, e⟩ := h
  obtain ⟨-, cell, q1, q2, q3, q4⟩ := ho
  have ea : a = a0 := by
    by_cases w : a = a0
    · exact w
    · rw [th_up_n w] at g
      exact absurd g (hno a o)
  subst ea
  have hn : ∀ j, j < 7 → th_sl H a (G.1.1.2 3 j) = V j := fun j hj => th_sl_at q1 (q4 j hj)
  have hj : j = 1 ∨ j = 2 ∨ j = 3 ∨ j = 4 := by omega
  rcases hj with rfl | rfl | rfl | rfl
  · cases ((hn 1 (by decide)).trans v1).symm.trans e; exact h1
  · cases ((hn 2 (by decide)).trans v2).symm.trans e; exact h2
  · cases ((hn 3 (by decide)).trans v3).symm.trans e; exact h3
  · cases ((hn 4 (by decide)).trans v4).symm.trans e; exact h4
end TU
end
section
section TGP
variable {G : th_G} {Q : Int → Int → Prop}
theorem gp_1 : Prod.fst (th_gp G Q) = Prod.fst G := rfl
theorem gp_I : th_I (th_gp G Q) = th_I G := rfl
theorem gp_F : th_F (th_gp G Q) = th_F G := rfl
theorem gp_P {av : List Value} : th_P av (th_gp G Q) = th_P av G := rfl
theorem gp_Q {post : Option Value → Heap → Prop} : th_Q post (th_gp G Q) = th_Q post G := rfl
theorem gp_dv : dv (th_gp G Q) = dv G := rfl
theorem gp_bits : th_bits (th_gp G Q) = th_bits G := rfl
theorem gp_bp : th_bp (th_gp G Q) = th_bp G := rfl
end TGP
set_option maxHeartbeats 4000000 in
theorem c_X7_solve_T (l : Launch) (G : th_G) (Q : Int → Int → Prop) (Γ : th_Ga) (H0 : Heap) (hI : th_I G Γ H0) (hR : th_RC (th_gp G Q) Γ H0) (hU : dv_U Γ) (a0 : Nat) (h0 : Γ a0 = (27, 0)) (p1 : Int64) (p2 : Int32) (p3 : Int32) (f3 : 0 ≤ p3.toInt) (g3 : p3.toInt ≤ 144) (p4 : Int32) (f4 : 0 ≤ p4.toInt) (g4 : p4.toInt ≤ 9) (nn7 : ∃ b : Nat, th_sl H0 a0 (G.1.1.2 7 7) = .ref b ∧ Γ b = (11, 0)) (nn8 : ∃ b : Nat, th_sl H0 a0 (G.1.1.2 7 8) = .ref b ∧ Γ b = (3, 0)) (gV : dV) (gX : Int → Nat → Int → Prop) (gf gs : Int) (gn : Nat) (gr gq : Nat → Int → Int) (hS9 : sS gV (a0 : Int) gf gX gs gn gr gq) (hX9 : ∀ a o : Nat, Γ a = (12, o) → ∀ m z, gX (a : Int) m z) (hP9 : ∀ x y : Int, Q x y ↔ sP gV (a0 : Int) gf gs gn gr x y) (hE9 : 1 ≤ gV (a0 : Int) 13 0) (hV9 : sV (a0 : Int) gX gV (dv G Γ H0) ∧ pC (a0 : Int) gq gV (dv G Γ H0)) (hK9 : sK gV gf p1.toInt p2.toInt p3.toInt p4.toInt.toNat) (u0 : Nat) (hu0 : th_bits G Γ H0 u0) : Met l yX7_solve (.code yX7_solve cX7_solve 11 (some FieldType.int) :: th_tb) ({ frames := 14, cells := (th_pc u0), slots := (th_pq u0), locals := 400 } : Room) (th_P [.ref a0, .long p1, .int p2, .int p3, .int p4] G H0) (th_Q (fun (v : Option Value) (H1 : Heap) => ∃ r : Int32, v = some (.int r) ∧ th_I G Γ H1 ∧ th_F G Γ [(24, 0), (23, 3), (26, 0), (25, 0), (28, 0), (29, 0), (12, 0), (12, 1), (12, 2), (12, 3), (12, 4), (12, 5), (12, 6), (31, 0), (27, 5)] H0 H1 ∧ th_RC (th_gp G Q) Γ H1 ∧ ((sV (a0 : Int) gX gV (dv G Γ H1) ∧ pC (a0 : Int) gq gV (dv G Γ H1)) ∧ sP gV (a0 : Int) gf gs gn gr p1.toInt r.toInt) ∧ th_bp G Γ H0 H1 u0) G) (th_pc u0) (th_pq u0) (fun q => G.1.2.2 ≤ q) := by
  have h := c_X7_solve_S l (th_gp G Q) Γ H0 (by rw [gp_I]; exact hI) hR hU a0 h0 p1 p2 p3 f3 g3 p4 f4 g4 nn7 nn8 gV gX gf gs gn gr gq hS9 hX9 hP9 hE9 (by rw [gp_dv]; exact hV9) hK9 u0 (by rw [gp_bits]; exact hu0)
  simp only [gp_P, gp_Q, gp_I, gp_F, gp_dv, gp_bp, gp_1] at h
  exact h
set_option maxHeartbeats 4000000 in
set_option maxRecDepth 100000 in
theorem c_X7_begin_S (l : Launch) (G : th_G) (Γ : th_Ga) (H0 : Heap) (hI : th_I G Γ H0) (hR : th_RC G Γ H0) (hU : dv_U Γ) (a0 : Nat) (h0 : Γ a0 = (27, 0)) (p1 : Int32) (f1 : 0 ≤ p1.toInt) (g1 : p1.toInt ≤ 1) (p2 : Int32) (gX : Int → Nat → Int → Prop) (hX9 : ∀ a o : Nat, Γ a = (12, o) → ∀ m z, gX (a : Int) m z) (nX9 : ∀ m z, ¬ gX (a0 : Int) m z) : Met l yX7_begin (.code yX7_begin cX7_begin 3 (none) :: th_tb) ({ frames := 1, cells := 0, slots := 0, locals := 21 } : Room) (th_P [.ref a0, .int p1, .int p2] G H0) (th_Q (fun (v : Option Value) (H1 : Heap) => v = none ∧ th_I G Γ H1 ∧ th_F G Γ [(27, 12), (27, 13), (27, 6), (27, 5), (12, 5), (12, 6)] H0 H1 ∧ th_RC G Γ H1 ∧ (sB (a0 : Int) p1.toInt p2.toInt gX (dv G Γ H0) (dv G Γ H1)) ∧ (∃ b : Nat, Γ b = (12, 0) ∧ th_MZ G Γ H1 b)) G) 0 0 (fun q => G.1.2.2 ≤ q) := by
  refine th_met RX7 (by decide) rfl (Nat.le_of_ble_eq_true rfl) ?_
  intro p e s m below meth c hC hH hr hlocks hnm ls hl
  have hx := hC.1
  have hb := hC.2.1
  have hB : th_B G Γ Γ [(27, 12), (27, 13), (27, 6), (27, 5), (12, 5), (12, 6)] H0 H0 [] := ⟨hI, va_S.rf, th_F_rf⟩
  have hl : lv_has ls 3 [(0, .ref a0), (1, .int p1), (2, .int p2)] := hl
  have lp1 := ti_lo p1; have up1 := ti_hi p1
  have lp2 := ti_lo p2; have up2 := ti_hi p2
  refine lv_aload_n hx hb gX7_begin_0.1 rfl (lv_at hl 0 rfl) ?_
  refine lv_iload_n hx hb gX7_begin_0.2.1 rfl (lv_at hl 1 rfl) ?_
  refine th_put hC cf_X7 hB h0 (Or.inl h0) ro_27 rfl (j := 12) rfl (th_sI (by omega) (by omega)) (by decide) rfl (th_nb (by omega) (by omega)) (th_fb (by omega) (by omega)) kf_X7_131 gX7_begin_0.2.2.1 (fun H2 locs hB hf hst2 => ?_)
  have hR := th_RC_F hB.1 hR hf (th_T_s h0 ro_27 hst2) (by decide)
  have e1 := dv_putI hB.1 h0 ro_27 (j := 12) rfl (th_apart hC cf_X7) hst2 (Eq.refl (p1.toInt)) (by decide)
  refine lv_aload_n hx hb gX7_begin_0.2.2.2.1 rfl (lv_at hl 0 rfl) ?_
  refine lv_iload_n hx hb gX7_begin_0.2.2.2.2.1 rfl (lv_at hl 2 rfl) ?_
  refine th_put hC cf_X7 hB h0 (Or.inl h0) ro_27 rfl (j := 13) rfl th_sIa (by decide) rfl rfl rfl kf_X7_135 gX7_begin_0.2.2.2.2.2.1 (fun H7 locs hB hf hst7 => ?_)
  have hR := th_RC_F hB.1 hR hf (th_T_s h0 ro_27 hst7) (by decide)
  have e2 := dv_putI hB.1 h0 ro_27 (j := 13) rfl (th_apart hC cf_X7) hst7 (Eq.refl (p2.toInt)) (by decide)
  refine lv_aload_n hx hb gX7_begin_0.2.2.2.2.2.2.1 rfl (lv_at hl 0 rfl) ?_
  refine th_getR (j := 0) (r2 := 12) hC cf_X7 hB.1 h0 ro_27 rfl rfl kf_X7_12 gX7_begin_0.2.2.2.2.2.2.2 (fun b1 mb1 hb1 => ?_)
  have hIo := hB.1
  refine th_call (th_runV (As := []) (rest := []) hC mf_X3_clear km_X7_138 im_X3_clear se_X3_clear (c_X3_clear l G Γ H7 hB.1 hR b1 hb1) rfl rfl ⟨Nat.le_of_ble_eq_true rfl, Nat.le_of_ble_eq_true rfl⟩ hB.1 hb1 ro_12 rfl rfl hl.1 rfl (Nat.le_of_ble_eq_true rfl) gX7_begin_1.1 ⟨Nat.le_refl _, Nat.le_refl _⟩) hB.2.1 (fun v14 H14 locs hp hz hS => ?_)
  obtain ⟨rfl, hI1, hf, hR, z14_0⟩ := hp
  have hB := th_B_c hB hI1 hS hf (by decide)
  refine W.eq (g2 := F0 m 17 ls []) rfl ?_
  have e3 : ∀ b m z, ¬ gX b m z → dv G Γ H14 b m z = dv G Γ H7 b m z := fun b m z nb => sv_M hIo hB.1 hf (by decide) (fun a o q e => nb (by rw [e]; exact hX9 a o q _ _))
  have hM14 := z14_0
  refine lv_aload_n hx hb gX7_begin_1.2.1 rfl (lv_at hl 0 rfl) ?_
  refine lv_dup hx hb gX7_begin_1.2.2.1 rfl ?_
  refine th_getI (j := 6) hC cf_X7 hB.1 h0 ro_27 rfl rfl kf_X7_35 gX7_begin_1.2.2.2.1 (fun x2 mx2 lx2 ux2 => ?_)
  refine lv_iconst (v := 1) hx hb gX7_begin_1.2.2.2.2.1 (by decide) ?_
  refine lv_iadd hx hb gX7_begin_1.2.2.2.2.2.1 ?_
  refine lv_topi (fun x3 ex3 => ?_)
  have lx3 := ti_lo x3; have ux3 := ti_hi x3
  refine th_put hC cf_X7 hB h0 (Or.inl h0) ro_27 rfl (j := 6) rfl th_sIa (by decide) rfl rfl rfl kf_X7_35 gX7_begin_1.2.2.2.2.2.2.1 (fun H24 locs hB hf hst24 => ?_)
  have hR := th_RC_F hB.1 hR hf (th_T_s h0 ro_27 hst24) (by decide)
  have e4 := dv_putI hB.1 h0 ro_27 (j := 6) rfl (th_apart hC cf_X7) hst24 (Eq.refl (x3.toInt)) (by decide)
  have er : x3.toInt = dv_add (dv G Γ H14 (a0 : Int) 6 0) 1 := by rw [dv_getI h0 ro_27 (j := 6) rfl mx2 (by decide)]; exact (dv_add_e (Eq.refl _) tk_1 ex3).symm
  have hM24 := th_MZ_T (o := 0) (r := 0) hM14 hf (th_T_s h0 ro_27 hst24) hb1 (by decide)
  refine lv_aload_n hx hb gX7_begin_1.2.2.2.2.2.2.2 rfl (lv_at hl 0 rfl) ?_
  refine lv_iconst (v := 0) hx hb gX7_begin_2.1 (by decide) ?_
  refine th_put hC cf_X7 hB h0 (Or.inl h0) ro_27 rfl (j := 5) rfl th_sIa (by decide) rfl rfl rfl kf_X7_31 gX7_begin_2.2.1 (fun H29 locs hB hf hst29 => ?_)
  have hR := th_RC_F hB.1 hR hf (th_T_s h0 ro_27 hst29) (by decide)
  have e5 := dv_putI hB.1 h0 ro_27 (j := 5) rfl (th_apart hC cf_X7) hst29 tk_0 (by decide)
  have hM29 := th_MZ_T (o := 0) (r := 0) hM24 hf (th_T_s h0 ro_27 hst29) hb1 (by decide)
  exact th_vret hC hH hr hlocks hB.2.1 ⟨rfl, hB.1, hB.2.2, hR, sB_mk nX9 e1 e2 e3 e4 er e5, ⟨_, hb1, hM29⟩⟩ gX7_begin_2.2.2

set_option maxHeartbeats 4000000 in
set_option maxRecDepth 100000 in
theorem c_X7_number_S (l : Launch) (G : th_G) (Γ : th_Ga) (H0 : Heap) (hI : th_I G Γ H0) (hR : th_RC G Γ H0) (hU : dv_U Γ) (a0 : Nat) (h0 : Γ a0 = (27, 0)) (p1 : Int32) (nn7 : ∃ b : Nat, th_sl H0 a0 (G.1.1.2 7 7) = .ref b ∧ Γ b = (11, 0)) (nn8 : ∃ b : Nat, th_sl H0 a0 (G.1.1.2 7 8) = .ref b ∧ Γ b = (3, 0)) (gX : Int → Nat → Int → Prop) (hX9 : ∀ a o : Nat, Γ a = (12, o) → ∀ m z, gX (a : Int) m z) (nX9 : ∀ m z, ¬ gX (a0 : Int) m z) (gf gs : Int) (gn : Nat) (gr gq : Nat → Int → Int) (hS8 : ∀ V, sB (a0 : Int) 0 p1.toInt gX (dv G Γ H0) V → sS V (a0 : Int) gf gX gs gn gr gq ∧ pC (a0 : Int) gq V V) (hb8 : dv G Γ H0 (a0 : Int) 11 0 = blc (cvk (dv G Γ H0) gf 0) (dv G Γ H0 gf 8 0) (dv G Γ H0 gf 9 0)) (hE8 : 1 ≤ (p1.toInt : Int)) (hP8 : ∀ x y : Int, th_pm G x y) (u0 : Nat) (hu0 : th_bits G Γ H0 u0) : Met l yX7_number (.code yX7_number cX7_number 2 (some FieldType.int) :: th_tb) ({ frames := 15, cells := (th_pc u0), slots := (th_pq u0), locals := 430 } : Room) (th_P [.ref a0, .int p1] G H0) (th_Q (fun (v : Option Value) (H1 : Heap) => ∃ r : Int32, v = some (.int r) ∧ th_I G Γ H1 ∧ th_F G Γ [(24, 0), (23, 3), (26, 0), (25, 0), (28, 0), (29, 0), (12, 0), (12, 1), (12, 2), (12, 3), (12, 4), (12, 5), (12, 6), (31, 0), (27, 12), (27, 13), (27, 6), (27, 5)] H0 H1 ∧ th_RC G Γ H1 ∧ (∃ V : dV, sB (a0 : Int) 0 p1.toInt gX (dv G Γ H0) V ∧ (sV (a0 : Int) gX V (dv G Γ H1) ∧ pC (a0 : Int) gq V (dv G Γ H1)) ∧ sNd 0 p1.toInt (sNk V gf gs gn gr 9 0) (sLk V gf gs gn gr 9 0) r.toInt) ∧ th_bp G Γ H0 H1 u0) G) (th_pc u0) (th_pq u0) (fun q => G.1.2.2 ≤ q) := by
  refine th_met RX7 (by decide) rfl (Nat.le_of_ble_eq_true rfl) ?_
  intro p e s m below meth c hC hH hr hlocks hnm ls hl
  have hx := hC.1
  have hb := hC.2.1
  have hB : th_B G Γ Γ [(24, 0), (23, 3), (26, 0), (25, 0), (28, 0), (29, 0), (12, 0), (12, 1), (12, 2), (12, 3), (12, 4), (12, 5), (12, 6), (31, 0), (27, 12), (27, 13), (27, 6), (27, 5)] H0 H0 [] := ⟨hI, va_S.rf, th_F_rf⟩
  have hl : lv_has ls 2 [(0, .ref a0), (1, .int p1)] := hl
  have lp1 := ti_lo p1; have up1 := ti_hi p1
  obtain ⟨bn7, mbn7, hbn7⟩ := nn7
  obtain ⟨bn8, mbn8, hbn8⟩ := nn8
  have ku0 : th_pc u0 ≤ th_pc u0 ∧ th_pq u0 ≤ th_pq u0 := ⟨Nat.le_refl _, Nat.le_refl _⟩
  refine W.widen (k := th_pc u0 - th_pc u0) (n := th_pq u0 - th_pq u0) (Nat.zero_le _) (Nat.zero_le _) ?_
  refine lv_aload_n hx hb gX7_number_0.1 rfl (lv_at hl 0 rfl) ?_
  refine lv_iconst (v := 0) hx hb gX7_number_0.2.1 (by decide) ?_
  refine lv_iload_n hx hb gX7_number_0.2.2.1 rfl (lv_at hl 1 rfl) ?_
  refine th_call (th_runV (As := [.int 0, .int p1]) (rest := []) hC mf_X7_begin km_X7_93 im_X7_begin se_X7_begin (c_X7_begin_S l G Γ H0 hB.1 hR hU a0 h0 0 (by decide) (by decide) p1 gX hX9 nX9) rfl rfl ⟨Nat.le_of_ble_eq_true rfl, Nat.le_of_ble_eq_true rfl⟩ hB.1 h0 ro_27 rfl rfl hl.1 rfl (Nat.le_of_ble_eq_true rfl) gX7_number_0.2.2.2.1 ⟨by dsimp only; omega, by dsimp only; omega⟩) hB.2.1 (fun v3 H3 locs hp hz hS => ?_)
  obtain ⟨rfl, hI1, hf, hR, z3_0, z3_1⟩ := hp
  have hB := th_B_c hB hI1 hS hf (by decide)
  have mm1 := (th_F_o hf h0 ro_27 (j := 7) (by decide) (by decide)).trans mbn7
  have mm2 := (th_F_o hf h0 ro_27 (j := 8) (by decide) (by decide)).trans mbn8
  have mu3 := th_bits_F hf hu0 (by decide)
  refine W.eq (g2 := F0 m 6 ls []) rfl ?_
  obtain ⟨mb9, hmb9, hmz9⟩ := z3_1
  have hB9 : sB (a0 : Int) 0 p1.toInt gX (dv G Γ H0) (dv G Γ H3) := z3_0
  obtain ⟨hS9, hC9⟩ := hS8 _ hB9
  refine lv_aload_n hx hb gX7_number_0.2.2.2.2.1 rfl (lv_at hl 0 rfl) ?_
  refine th_call (th_runV (As := []) (rest := []) hC mf_X7_areaReady km_X7_97 im_X7_areaReady se_X7_areaReady (c_X7_areaReady l G Γ H3 hB.1 hU a0 h0 ⟨_, mm2, hbn8⟩) rfl rfl ⟨Nat.le_of_ble_eq_true rfl, Nat.le_of_ble_eq_true rfl⟩ hB.1 h0 ro_27 rfl rfl hl.1 rfl (Nat.le_of_ble_eq_true rfl) gX7_number_0.2.2.2.2.2.1 ⟨by dsimp only; omega, by dsimp only; omega⟩) hB.2.1 (fun v7 H7 locs hp hz hS => ?_)
  obtain ⟨x4, rfl, q7_0, rfl⟩ := hp
  have hB := th_B_s hB hS
  refine W.eq (g2 := F0 m 10 ls [.int x4]) rfl ?_
  have ha9 := s_ready hS9 q7_0
  refine lv_aload_n hx hb gX7_number_0.2.2.2.2.2.2.1 rfl (lv_at hl 0 rfl) ?_
  refine th_getI (j := 11) hC cf_X7 hB.1 h0 ro_27 rfl rfl kf_X7_63 gX7_number_0.2.2.2.2.2.2.2 (fun x5 mx5 lx5 ux5 => ?_)
  have sx5 := (th_F_o hB.2.2 h0 ro_27 (j := 11) (by decide) (by decide)).symm.trans mx5
  have hb9 : x5.toInt = blc (cvk (dv G Γ H3) gf 0) (dv G Γ H3 gf 8 0) (dv G Γ H3 gf 9 0) := (dv_getI h0 ro_27 (j := 11) rfl mx5 (by decide)).symm.trans (s_bare hB9 hS9 hb8)
  refine tr_icmp_ge (tgt := 21) hx hb gX7_number_1.1 (by decide) (Eq.refl _) (Eq.refl _) (fun c14 => ?_) (fun c14 => ?_)
  · refine lv_aload_n hx hb gX7_number_1.2.2.2.1 rfl (lv_at hl 0 rfl) ?_
    refine lv_lconst (v := 0) hx hb gX7_number_1.2.2.2.2.1 rfl ?_
    refine lv_aload_n hx hb gX7_number_1.2.2.2.2.2.1 rfl (lv_at hl 0 rfl) ?_
    refine th_getK hC cf_X7 hB.1 h0 ro_27 rfl (j := 11) (by decide) mx5 kf_X7_63 gX7_number_1.2.2.2.2.2.2.1 ?_
    refine lv_iconst (v := 0) hx hb gX7_number_1.2.2.2.2.2.2.2 (by decide) ?_
    refine lv_iconst (v := 0) hx hb gX7_number_2.1 (by decide) ?_
    refine W.count (fun hc1 hc2 => ?_)
    refine th_call (th_runV (As := [.long 0, .int x5, .int 0, .int 0]) (rest := []) hC mf_X7_solve km_X7_100 im_X7_solve se_X7_solve (c_X7_solve_T l G (sP (dv G Γ H3) (a0 : Int) gf gs gn gr) Γ H3 hB.1 (th_RC_P hR hmb9 hmz9) hU a0 h0 0 x5 0 (by decide) (by decide) 0 (by decide) (by decide) ⟨_, mm1, hbn7⟩ ⟨_, mm2, hbn8⟩ _ gX gf gs gn gr gq hS9 hX9 (fun x y => Iff.rfl) (by rw [hB9.2.2.1]; exact hE8) ⟨sV_r, hC9⟩ (s_K0 hb9) u0 mu3) rfl rfl ⟨Nat.le_of_ble_eq_true rfl, Nat.le_of_ble_eq_true rfl⟩ hB.1 h0 ro_27 rfl rfl hl.1 rfl (Nat.le_of_ble_eq_true rfl) gX7_number_2.2.1 ⟨by dsimp only; omega, by dsimp only; omega⟩) hB.2.1 (fun v29 H29 locs hp hz hS => ?_)
    obtain ⟨x6, rfl, hI1, hf, hR, z29_0, ⟨u29, hu29, ka29, kb29, kc29, kd29⟩⟩ := hp
    have hR := th_RC_W hR hP8
    have hB := th_B_c hB hI1 hS hf (by decide)
    have mm7 := (th_F_o hf h0 ro_27 (j := 7) (by decide) (by decide)).trans mm1
    have mm8 := (th_F_o hf h0 ro_27 (j := 8) (by decide) (by decide)).trans mm2
    have mm9 := (th_F_o hf h0 ro_27 (j := 11) (by decide) (by decide)).trans mx5
    have ku29 : th_pc u29 ≤ th_pc u0 ∧ th_pq u29 ≤ th_pq u0 := by omega
    refine W.tight (k := th_pc u0 - th_pc u29) (n := th_pq u0 - th_pq u29) (by omega) (by omega) ?_
    refine W.eq (g2 := F0 m 32 ls [.int x6]) rfl ?_
    have hz9 : (sV (a0 : Int) gX (dv G Γ H3) (dv G Γ H29) ∧ pC (a0 : Int) gq (dv G Γ H3) (dv G Γ H29)) ∧ sP (dv G Γ H3) (a0 : Int) gf gs gn gr 0 x6.toInt := z29_0
    refine W.count (fun hc1 hc2 => ?_)
    rw [hH] at hc1 hc2
    refine W.widen (k := th_pc u0) (n := th_pq u0) (Nat.sub_le _ _) (Nat.sub_le _ _) ?_
    exact th_iret hC hH hr hlocks rfl hB.2.1 ⟨_, rfl, hB.1, hB.2.2, hR, ⟨_, hB9, hz9.1, s_fin hB9.2.1 hB9.2.2.1 hz9.2⟩, ⟨u29, hu29, ku29.1, ku29.2, by omega, by omega⟩⟩ gX7_number_2.2.2
  · refine lv_iconst (v := 0) hx hb gX7_number_1.2.1 (by decide) ?_
    refine lv_goto (tgt := 32) hx hb gX7_number_1.2.2.1 (by decide) ?_
    refine W.count (fun hc1 hc2 => ?_)
    rw [hH] at hc1 hc2
    refine W.widen (k := th_pc u0) (n := th_pq u0) (Nat.sub_le _ _) (Nat.sub_le _ _) ?_
    exact th_iret hC hH hr hlocks rfl hB.2.1 ⟨_, rfl, hB.1, hB.2.2, hR, ⟨_, hB9, ⟨sV_r, hC9⟩, s_none hS9 (by rw [← hb9, ← ha9]; omega) hE8 (fun q => by first | exact tk_0 | exact absurd q (by decide)) (fun q => by first | exact tk_m1 | exact absurd rfl q)⟩, ⟨u0, mu3, ku0.1, ku0.2, by omega, by omega⟩⟩ gX7_number_2.2.2

set_option maxHeartbeats 4000000 in
set_option maxRecDepth 100000 in
theorem c_X7_leastCost_S (l : Launch) (G : th_G) (Γ : th_Ga) (H0 : Heap) (hI : th_I G Γ H0) (hR : th_RC G Γ H0) (hU : dv_U Γ) (a0 : Nat) (h0 : Γ a0 = (27, 0)) (nn7 : ∃ b : Nat, th_sl H0 a0 (G.1.1.2 7 7) = .ref b ∧ Γ b = (11, 0)) (nn8 : ∃ b : Nat, th_sl H0 a0 (G.1.1.2 7 8) = .ref b ∧ Γ b = (3, 0)) (gX : Int → Nat → Int → Prop) (hX9 : ∀ a o : Nat, Γ a = (12, o) → ∀ m z, gX (a : Int) m z) (nX9 : ∀ m z, ¬ gX (a0 : Int) m z) (gf gs : Int) (gn : Nat) (gr gq : Nat → Int → Int) (hS8 : ∀ V, sB (a0 : Int) 1 1 gX (dv G Γ H0) V → sS V (a0 : Int) gf gX gs gn gr gq ∧ pC (a0 : Int) gq V V) (hb8 : dv G Γ H0 (a0 : Int) 11 0 = blc (cvk (dv G Γ H0) gf 0) (dv G Γ H0 gf 8 0) (dv G Γ H0 gf 9 0)) (hE8 : 1 ≤ (1 : Int)) (hP8 : ∀ x y : Int, th_pm G x y) (u0 : Nat) (hu0 : th_bits G Γ H0 u0) : Met l yX7_leastCost (.code yX7_leastCost cX7_leastCost 1 (some FieldType.int) :: th_tb) ({ frames := 15, cells := (th_pc u0), slots := (th_pq u0), locals := 430 } : Room) (th_P [.ref a0] G H0) (th_Q (fun (v : Option Value) (H1 : Heap) => ∃ r : Int32, v = some (.int r) ∧ th_I G Γ H1 ∧ th_F G Γ [(24, 0), (23, 3), (26, 0), (25, 0), (28, 0), (29, 0), (12, 0), (12, 1), (12, 2), (12, 3), (12, 4), (12, 5), (12, 6), (31, 0), (27, 12), (27, 13), (27, 6), (27, 5)] H0 H1 ∧ th_RC G Γ H1 ∧ (∃ V : dV, sB (a0 : Int) 1 1 gX (dv G Γ H0) V ∧ (sV (a0 : Int) gX V (dv G Γ H1) ∧ pC (a0 : Int) gq V (dv G Γ H1)) ∧ sNd 1 1 (sNk V gf gs gn gr 9 0) (sLk V gf gs gn gr 9 0) r.toInt) ∧ th_bp G Γ H0 H1 u0) G) (th_pc u0) (th_pq u0) (fun q => G.1.2.2 ≤ q) := by
  refine th_met RX7 (by decide) rfl (Nat.le_of_ble_eq_true rfl) ?_
  intro p e s m below meth c hC hH hr hlocks hnm ls hl
  have hx := hC.1
  have hb := hC.2.1
  have hB : th_B G Γ Γ [(24, 0), (23, 3), (26, 0), (25, 0), (28, 0), (29, 0), (12, 0), (12, 1), (12, 2), (12, 3), (12, 4), (12, 5), (12, 6), (31, 0), (27, 12), (27, 13), (27, 6), (27, 5)] H0 H0 [] := ⟨hI, va_S.rf, th_F_rf⟩
  have hl : lv_has ls 1 [(0, .ref a0)] := hl
  obtain ⟨bn7, mbn7, hbn7⟩ := nn7
  obtain ⟨bn8, mbn8, hbn8⟩ := nn8
  have ku0 : th_pc u0 ≤ th_pc u0 ∧ th_pq u0 ≤ th_pq u0 := ⟨Nat.le_refl _, Nat.le_refl _⟩
  refine W.widen (k := th_pc u0 - th_pc u0) (n := th_pq u0 - th_pq u0) (Nat.zero_le _) (Nat.zero_le _) ?_
  refine lv_aload_n hx hb gX7_leastCost_0.1 rfl (lv_at hl 0 rfl) ?_
  refine lv_iconst (v := 1) hx hb gX7_leastCost_0.2.1 (by decide) ?_
  refine lv_iconst (v := 1) hx hb gX7_leastCost_0.2.2.1 (by decide) ?_
  refine th_call (th_runV (As := [.int 1, .int 1]) (rest := []) hC mf_X7_begin km_X7_93 im_X7_begin se_X7_begin (c_X7_begin_S l G Γ H0 hB.1 hR hU a0 h0 1 (by decide) (by decide) 1 gX hX9 nX9) rfl rfl ⟨Nat.le_of_ble_eq_true rfl, Nat.le_of_ble_eq_true rfl⟩ hB.1 h0 ro_27 rfl rfl hl.1 rfl (Nat.le_of_ble_eq_true rfl) gX7_leastCost_0.2.2.2.1 ⟨by dsimp only; omega, by dsimp only; omega⟩) hB.2.1 (fun v3 H3 locs hp hz hS => ?_)
  obtain ⟨rfl, hI1, hf, hR, z3_0, z3_1⟩ := hp
  have hB := th_B_c hB hI1 hS hf (by decide)
  have mm1 := (th_F_o hf h0 ro_27 (j := 7) (by decide) (by decide)).trans mbn7
  have mm2 := (th_F_o hf h0 ro_27 (j := 8) (by decide) (by decide)).trans mbn8
  have mu3 := th_bits_F hf hu0 (by decide)
  refine W.eq (g2 := F0 m 6 ls []) rfl ?_
  obtain ⟨mb9, hmb9, hmz9⟩ := z3_1
  have hB9 : sB (a0 : Int) 1 1 gX (dv G Γ H0) (dv G Γ H3) := z3_0
  obtain ⟨hS9, hC9⟩ := hS8 _ hB9
  refine lv_aload_n hx hb gX7_leastCost_0.2.2.2.2.1 rfl (lv_at hl 0 rfl) ?_
  refine th_call (th_runV (As := []) (rest := []) hC mf_X7_areaReady km_X7_97 im_X7_areaReady se_X7_areaReady (c_X7_areaReady l G Γ H3 hB.1 hU a0 h0 ⟨_, mm2, hbn8⟩) rfl rfl ⟨Nat.le_of_ble_eq_true rfl, Nat.le_of_ble_eq_true rfl⟩ hB.1 h0 ro_27 rfl rfl hl.1 rfl (Nat.le_of_ble_eq_true rfl) gX7_leastCost_0.2.2.2.2.2.1 ⟨by dsimp only; omega, by dsimp only; omega⟩) hB.2.1 (fun v7 H7 locs hp hz hS => ?_)
  obtain ⟨x4, rfl, q7_0, rfl⟩ := hp
  have hB := th_B_s hB hS
  refine W.eq (g2 := F0 m 10 ls [.int x4]) rfl ?_
  have ha9 := s_ready hS9 q7_0
  refine lv_aload_n hx hb gX7_leastCost_0.2.2.2.2.2.2.1 rfl (lv_at hl 0 rfl) ?_
  refine th_getI (j := 11) hC cf_X7 hB.1 h0 ro_27 rfl rfl kf_X7_63 gX7_leastCost_0.2.2.2.2.2.2.2 (fun x5 mx5 lx5 ux5 => ?_)
  have sx5 := (th_F_o hB.2.2 h0 ro_27 (j := 11) (by decide) (by decide)).symm.trans mx5
  have hb9 : x5.toInt = blc (cvk (dv G Γ H3) gf 0) (dv G Γ H3 gf 8 0) (dv G Γ H3 gf 9 0) := (dv_getI h0 ro_27 (j := 11) rfl mx5 (by decide)).symm.trans (s_bare hB9 hS9 hb8)
  refine tr_icmp_ge (tgt := 21) hx hb gX7_leastCost_1.1 (by decide) (Eq.refl _) (Eq.refl _) (fun c14 => ?_) (fun c14 => ?_)
  · refine lv_aload_n hx hb gX7_leastCost_1.2.2.2.1 rfl (lv_at hl 0 rfl) ?_
    refine lv_lconst (v := 0) hx hb gX7_leastCost_1.2.2.2.2.1 rfl ?_
    refine lv_aload_n hx hb gX7_leastCost_1.2.2.2.2.2.1 rfl (lv_at hl 0 rfl) ?_
    refine th_getK hC cf_X7 hB.1 h0 ro_27 rfl (j := 11) (by decide) mx5 kf_X7_63 gX7_leastCost_1.2.2.2.2.2.2.1 ?_
    refine lv_iconst (v := 0) hx hb gX7_leastCost_1.2.2.2.2.2.2.2 (by decide) ?_
    refine lv_iconst (v := 0) hx hb gX7_leastCost_2.1 (by decide) ?_
    refine W.count (fun hc1 hc2 => ?_)
    refine th_call (th_runV (As := [.long 0, .int x5, .int 0, .int 0]) (rest := []) hC mf_X7_solve km_X7_100 im_X7_solve se_X7_solve (c_X7_solve_T l G (sP (dv G Γ H3) (a0 : Int) gf gs gn gr) Γ H3 hB.1 (th_RC_P hR hmb9 hmz9) hU a0 h0 0 x5 0 (by decide) (by decide) 0 (by decide) (by decide) ⟨_, mm1, hbn7⟩ ⟨_, mm2, hbn8⟩ _ gX gf gs gn gr gq hS9 hX9 (fun x y => Iff.rfl) (by rw [hB9.2.2.1]; exact hE8) ⟨sV_r, hC9⟩ (s_K0 hb9) u0 mu3) rfl rfl ⟨Nat.le_of_ble_eq_true rfl, Nat.le_of_ble_eq_true rfl⟩ hB.1 h0 ro_27 rfl rfl hl.1 rfl (Nat.le_of_ble_eq_true rfl) gX7_leastCost_2.2.1 ⟨by dsimp only; omega, by dsimp only; omega⟩) hB.2.1 (fun v29 H29 locs hp hz hS => ?_)
    obtain ⟨x6, rfl, hI1, hf, hR, z29_0, ⟨u29, hu29, ka29, kb29, kc29, kd29⟩⟩ := hp
    have hR := th_RC_W hR hP8
    have hB := th_B_c hB hI1 hS hf (by decide)
    have mm7 := (th_F_o hf h0 ro_27 (j := 7) (by decide) (by decide)).trans mm1
    have mm8 := (th_F_o hf h0 ro_27 (j := 8) (by decide) (by decide)).trans mm2
    have mm9 := (th_F_o hf h0 ro_27 (j := 11) (by decide) (by decide)).trans mx5
    have ku29 : th_pc u29 ≤ th_pc u0 ∧ th_pq u29 ≤ th_pq u0 := by omega
    refine W.tight (k := th_pc u0 - th_pc u29) (n := th_pq u0 - th_pq u29) (by omega) (by omega) ?_
    refine W.eq (g2 := F0 m 32 ls [.int x6]) rfl ?_
    have hz9 : (sV (a0 : Int) gX (dv G Γ H3) (dv G Γ H29) ∧ pC (a0 : Int) gq (dv G Γ H3) (dv G Γ H29)) ∧ sP (dv G Γ H3) (a0 : Int) gf gs gn gr 0 x6.toInt := z29_0
    refine W.count (fun hc1 hc2 => ?_)
    rw [hH] at hc1 hc2
    refine W.widen (k := th_pc u0) (n := th_pq u0) (Nat.sub_le _ _) (Nat.sub_le _ _) ?_
    exact th_iret hC hH hr hlocks rfl hB.2.1 ⟨_, rfl, hB.1, hB.2.2, hR, ⟨_, hB9, hz9.1, s_fin hB9.2.1 hB9.2.2.1 hz9.2⟩, ⟨u29, hu29, ku29.1, ku29.2, by omega, by omega⟩⟩ gX7_leastCost_2.2.2
  · refine lv_iconst (v := (-1)) hx hb gX7_leastCost_1.2.1 (by decide) ?_
    refine lv_goto (tgt := 32) hx hb gX7_leastCost_1.2.2.1 (by decide) ?_
    refine W.count (fun hc1 hc2 => ?_)
    rw [hH] at hc1 hc2
    refine W.widen (k := th_pc u0) (n := th_pq u0) (Nat.sub_le _ _) (Nat.sub_le _ _) ?_
    exact th_iret hC hH hr hlocks rfl hB.2.1 ⟨_, rfl, hB.1, hB.2.2, hR, ⟨_, hB9, ⟨sV_r, hC9⟩, s_none hS9 (by rw [← hb9, ← ha9]; omega) hE8 (fun q => by first | exact tk_0 | exact absurd q (by decide)) (fun q => by first | exact tk_m1 | exact absurd rfl q)⟩, ⟨u0, mu3, ku0.1, ku0.2, by omega, by omega⟩⟩ gX7_leastCost_2.2.2
end
