section MO8
def mo_okz (k im has : Int → Int) : Prop := mo_kg k ∧ ∀ q, 0 ≤ q → q ≤ 1 → has q = 1 → mo_kg (fun i => im (5680 * q + i))
/-- all but what can be undone -/
def th_RZ (a : Nat) (G : th_G) (Γ : th_Ga) (H : Heap) : Prop := th_RC G Γ H ∧ mo_okz (mo_v G H a 2) (mo_v G H a 3) (mo_v G H a 4)
theorem th_NZ {a : Nat} {G : th_G} {Γ : th_Ga} {H : Heap} (h : th_RN a G Γ H) : th_RZ a G Γ H := ⟨h.1, h.2.1, h.2.2.1⟩
theorem th_ZK {a : Nat} {G : th_G} {Γ : th_Ga} {H : Heap} (h : th_RZ a G Γ H) : th_RK a G Γ H := ⟨h.1, h.2.1⟩
theorem th_ZN {a : Nat} {G : th_G} {Γ : th_Ga} {H : Heap} (h : th_RZ a G Γ H) (h0 : mo_f G H a 33 = 0) : th_RN a G Γ H := ⟨h.1, h.2.1, h.2.2, fun r r0 r1 => by omega⟩
theorem th_RZ_c {a : Nat} {G : th_G} {Γ : th_Ga} {H H1 : Heap} {L : List (Nat × Nat)} (h1 : th_RC G Γ H1) (h : th_RZ a G Γ H) (hI : th_I G Γ H1) (ha : Γ a = (46, 0)) (hF : th_F G Γ L H H1) (hL : (th_in L 46 2 = false ∧ th_in L 48 0 = false) ∧ (th_in L 46 3 = false ∧ th_in L 49 0 = false) ∧ (th_in L 46 4 = false ∧ th_in L 50 0 = false)) : th_RZ a G Γ H1 := by
  refine ⟨h1, ?_⟩
  rw [mo_v_F (r := 48) hI hF ha rfl ro_48 hL.1.1 hL.1.2, mo_v_F (r := 49) hI hF ha rfl ro_49 hL.2.1.1 hL.2.1.2, mo_v_F (r := 50) hI hF ha rfl ro_50 hL.2.2.1 hL.2.2.2]
  exact h.2
theorem th_RZ_F {a : Nat} {G : th_G} {Γ : th_Ga} {H H1 : Heap} {L : List (Nat × Nat)} (hI : th_I G Γ H1) (h : th_RZ a G Γ H) (ha : Γ a = (46, 0)) (hF : th_F G Γ L H H1) (hT : th_T Γ H H1) (hL : L.all (fun q => !th_RCs.contains q) = true ∧ (th_in L 46 2 = false ∧ th_in L 48 0 = false) ∧ (th_in L 46 3 = false ∧ th_in L 49 0 = false) ∧ (th_in L 46 4 = false ∧ th_in L 50 0 = false)) : th_RZ a G Γ H1 := th_RZ_c (th_RC_F hI h.1 hF hT hL.1) h hI ha hF hL.2
theorem mo_kg_gx {k k' : Int → Int} (hk : mo_kg k) (gx : mo_gx k k') (hlw : mo_lw k') : mo_kg k' := by
  obtain ⟨h1, h2, h3, h4, h5⟩ := hk
  have m9 := h2.1
  have e69 := gx.2.2.2.2
  refine ⟨hlw, mo_geo_gx gx h2, by rw [gx.2.2.1]; exact h3, by rw [gx.2.2.2.1]; exact h4, fun d d0 d1 => ?_⟩
  rw [gx.2.1 (29 + d) (by omega) (by omega)]
  exact h5 d d0 (by omega)
theorem mo_kg_hall {k : Int → Int} {w h : Int} (hk : mo_kg k) (w1 : 1 ≤ w) (h1 : 1 ≤ h) (hl : ∀ c, 0 ≤ c → c < k 69 → k (9 + c) = -1) : mo_kg (mo_u (mo_u k 67 w) 68 h) := by
  obtain ⟨a1, a2, a3, a4, a5⟩ := hk
  have m9 := a2.1
  have e : ∀ i, i ≠ 67 → i ≠ 68 → mo_u (mo_u k 67 w) 68 h i = k i := fun i p q => by rw [mo_un q, mo_un p]
  have e69 := e 69 (by omega) (by omega)
  refine ⟨mo_lw_u (mo_lw_u a1 (by omega)) (by omega), mo_geo_0 (by omega) (fun c c0 c1 => ?_), ?_, by rw [mo_us rfl]; exact h1, fun c c0 c1 => ?_⟩
  · rw [e _ (by omega) (by omega)]
    exact hl c c0 (by omega)
  · rw [mo_un (by omega), mo_us rfl]
    exact w1
  · rw [e _ (by omega) (by omega)]
    exact a5 c c0 (by omega)
/-- what adds makes of the row k -/
def mo_ad (k : Int → Int) (c s q p : Int) : Int → Int := mo_u (mo_u (mo_u (mo_u (mo_u (mo_u k (29 + c) s) (38 + c) q) (0 + c) p) (9 + c) (-1)) (18 + c) (-1)) 69 (c + 1)
theorem mo_kg_ad {k : Int → Int} {c s q p : Int} (hk : mo_kg k) (hc : k 69 = c) (c0 : 0 ≤ c) (c1 : c < 9) (s1 : 1 ≤ s) : mo_kg (mo_ad k c s q p) := by
  obtain ⟨a1, a2, a3, a4, a5⟩ := hk
  have e : ∀ i, i ≠ 29 + c → i ≠ 38 + c → i ≠ 0 + c → i ≠ 9 + c → i ≠ 18 + c → i ≠ 69 → mo_ad k c s q p i = k i := fun i x1 x2 x3 x4 x5 x6 => by
    unfold mo_ad
    rw [mo_un x6, mo_un x5, mo_un x4, mo_un x3, mo_un x2, mo_un x1]
  have e69 : mo_ad k c s q p 69 = c + 1 := mo_us rfl
  have ex : mo_ad k c s q p (9 + c) = -1 := by
    unfold mo_ad
    rw [mo_un (by omega), mo_un (by omega), mo_us rfl]
  refine ⟨mo_lw_ext (fun i x y => e i (by omega) (by omega) (by omega) (by omega) (by omega) (by omega)) a1, mo_geo_ad a2 hc c0 c1 e69 ex (fun i x y z1 z2 z3 z4 => e i z3 z4 (by omega) z1 z2 (by omega)), by rw [e 67 (by omega) (by omega) (by omega) (by omega) (by omega) (by omega)]; exact a3, by rw [e 68 (by omega) (by omega) (by omega) (by omega) (by omega) (by omega)]; exact a4, fun d d0 d1 => ?_⟩
  by_cases w : d = c
  · subst w
    unfold mo_ad
    rw [mo_un (by omega), mo_un (by omega), mo_un (by omega), mo_un (by omega), mo_un (by omega), mo_us rfl]
    exact s1
  · rw [e _ (by omega) (by omega) (by omega) (by omega) (by omega) (by omega)]
    exact a5 d d0 (by omega)
theorem th_esk1 (i : Nat) : (th_esk i).1 = 0 := by
  unfold th_esk th_any; (repeat' split) <;> rfl
theorem th_esi1 (i : Nat) : (th_esi i).1 = 0 := th_esk1 _
theorem mo_esi {k i : Int} (h0 : 0 ≤ i) (h1 : i < 5680) (k0 : 0 ≤ k) (z : Int) (hz : z = 5680 * k + i) : th_esi z.toNat = th_esk i.toNat := by
  unfold th_esi
  congr 1
  omega
theorem mo_ok_u {k im has l : Int → Int} {u i v : Int} (hk : mo_ok k im has l u) (h : i < 9 ∨ i = 27 ∨ i = 28 ∨ (38 ≤ i ∧ i < 67) ∨ i = 70) : mo_ok (mo_u k i v) im has l u := mo_ok_gx hk (mo_gx_u (by omega)) (mo_lw_u hk.1.1 (by omega))
theorem mo_ok_f {k im has l : Int → Int} {u v : Int} (hk : mo_ok k im has l u) (h : v < k 71) : mo_ok (mo_u k 72 v) im has l u := mo_ok_gx hk (mo_gx_u (by omega)) (mo_lw_f hk.1.1 h)
theorem mo_ok_im {k im im' has l : Int → Int} {u q : Int} (hk : mo_ok k im has l u) (q0 : 0 ≤ q) (q1 : q ≤ 1) (h : ∀ z, im' z = if 5680 * q ≤ z ∧ z < 5680 * q + 5680 then k (z - 5680 * q) else im z) : mo_ok k im' (mo_u has q 1) l u := by
  refine ⟨hk.1, fun r r0 r1 hr => ?_, hk.2.2⟩
  by_cases e : r = q
  · subst e
    refine mo_kg_ext (fun i a b => ?_) hk.1
    show im' (5680 * r + i) = k i
    rw [h, if_pos (by omega)]
    congr 1
    omega
  · rw [mo_un e] at hr
    refine mo_kg_ext (fun i a b => ?_) (hk.2.1 r r0 r1 hr)
    show im' (5680 * r + i) = im (5680 * r + i)
    rw [h, if_neg (by omega)]
theorem mo_bare {k : Int → Int} {r : Int} (hk : mo_kg k) (hm : 0 ≤ k 69) (hr : r = k 67 * k 68 - mo_ss k (k 69).toNat) : 0 ≤ r := by
  obtain ⟨-, h2, h3, h4, -⟩ := hk
  have := mo_ss_le h2 (by omega) (by omega) (n := (k 69).toNat) (by omega)
  omega
theorem mo_dr {x : Int32} {a b c d : Int64} {z : Int32} (h0 : 0 ≤ x.toInt) (h1 : x.toInt ≤ 1000002) (e1 : a = x.toInt64) (e2 : b = 1103 * a) (e3 : c = b + 12345) (e4 : d = c - c / 1000003 * 1000003) (e5 : z = d.toInt32) : 0 ≤ z.toInt ∧ z.toInt ≤ 1000002 := by
  have a1 : a.toInt = x.toInt := ti_i2l e1
  obtain ⟨n, n1, n2⟩ : ∃ n : Nat, n ≤ 1000002 ∧ a = lN n := by
    refine ⟨x.toInt.toNat, by omega, Int64.toInt_inj.mp ?_⟩
    rw [a1, lN_toInt (by omega)]
    omega
  have b1 : b = lN (1103 * n) := by
    rw [e2, n2]
    exact lN_mul 1103 n
  have c1 : c = lN (1103 * n + 12345) := by
    rw [e3, b1]
    exact lN_add (1103 * n) 12345
  have d1 : d = lN ((1103 * n + 12345) % 1000003) := by
    rw [e4, c1]
    exact pk_lRem (a := 1103 * n + 12345) (b := 1000003) (by omega) (by omega) (by omega)
  have z1 : z = nI ((1103 * n + 12345) % 1000003) := by
    rw [e5, d1]
    exact lN_i _
  have q : (1103 * n + 12345) % 1000003 < 1000003 := Nat.mod_lt _ (by omega)
  rw [z1, nI_toInt (by omega)]
  omega
end MO8
set_option maxHeartbeats 4000000 in
set_option maxRecDepth 100000 in
theorem c_X12_good (l : Launch) (G : th_G) (Γ : th_Ga) (H0 : Heap) (hI : th_I G Γ H0) (hR : th_RC G Γ H0) (hU : dv_U Γ) (a0 : Nat) (h0 : Γ a0 = (46, 0)) (p1 : Int32) : Met l yX12_good (.code yX12_good cX12_good 2 (some FieldType.int) :: th_tb) ({ frames := 0, cells := 0, slots := 0, locals := 0 } : Room) (th_P [.ref a0, .int p1] G H0) (th_Q (fun (v : Option Value) (H1 : Heap) => ∃ r : Int32, v = some (.int r) ∧ (r.toInt = p1.toInt) ∧ th_I G Γ H1 ∧ th_F G Γ [(46, 0)] H0 H1 ∧ th_RC G Γ H1 ∧ (f_X12_good (dv G Γ H0) (a0 : Int) p1.toInt = (dv G Γ H1, r.toInt))) G) 0 0 (fun q => G.2.2 ≤ q) := by
  refine th_met RX12 (by decide) rfl (Nat.le_of_ble_eq_true rfl) ?_
  intro p e s m below meth c hC hH hr hlocks hnm ls hl
  have hx := hC.1
  have hb := hC.2.1
  have hB : th_B G Γ Γ [(46, 0)] H0 H0 [] := ⟨hI, va_S.rf, th_F_rf⟩
  have hl : lv_has ls 2 [(0, .ref a0), (1, .int p1)] := hl
  have lp1 := ti_lo p1; have up1 := ti_hi p1
  obtain ⟨F, hF0⟩ : ∃ F, F = f_X12_good (dv G Γ H0) ((a0 : Int)) (p1.toInt) := ⟨_, rfl⟩
  have hF := hF0.trans (f_X12_good.eq_1 (dv G Γ H0) ((a0 : Int)) (p1.toInt))
  refine lv_aload_n hx hb dX12_good_0 rfl (lv_at hl 0 rfl) ?_
  refine lv_iconst (v := 0) hx hb dX12_good_1 (by decide) ?_
  refine th_put hC cf_X12 hB h0 (Or.inl h0) ro_46 rfl (j := 0) rfl th_sIa (by decide) rfl rfl rfl kf_X12_3 dX12_good_2 (fun H2 locs hB hf hst2 => ?_)
  have hR := th_RC_F hB.1 hR hf (th_T_s h0 ro_46 hst2) (by decide)
  replace hF := hF.trans (dv_bn (dv_putI hB.1 h0 ro_46 (j := 0) rfl (th_apart hC cf_X12) hst2 tk_0 (by decide)))
  refine lv_iload_n hx hb dX12_good_5 rfl (lv_at hl 1 rfl) ?_
  exact th_iret hC hH hr hlocks rfl hB.2.1 ⟨_, rfl, by intros; omega, hB.1, hB.2.2, hR, (hF0.symm.trans hF)⟩ dX12_good_6

set_option maxHeartbeats 4000000 in
set_option maxRecDepth 100000 in
theorem c_X12_refuses (l : Launch) (G : th_G) (Γ : th_Ga) (H0 : Heap) (hI : th_I G Γ H0) (hR : th_RC G Γ H0) (hU : dv_U Γ) (a0 : Nat) (h0 : Γ a0 = (46, 0)) (p1 : Int32) (f1 : (-6) ≤ p1.toInt) (g1 : p1.toInt ≤ (-1)) : Met l yX12_refuses (.code yX12_refuses cX12_refuses 2 (some FieldType.int) :: th_tb) ({ frames := 0, cells := 0, slots := 0, locals := 0 } : Room) (th_P [.ref a0, .int p1] G H0) (th_Q (fun (v : Option Value) (H1 : Heap) => ∃ r : Int32, v = some (.int r) ∧ (r.toInt = p1.toInt) ∧ th_I G Γ H1 ∧ th_F G Γ [(47, 0), (46, 0)] H0 H1 ∧ th_RC G Γ H1 ∧ (f_X12_refuses (dv G Γ H0) (a0 : Int) p1.toInt = (dv G Γ H1, r.toInt))) G) 0 0 (fun q => G.2.2 ≤ q) := by
  refine th_met RX12 (by decide) rfl (Nat.le_of_ble_eq_true rfl) ?_
  intro p e s m below meth c hC hH hr hlocks hnm ls hl
  have hx := hC.1
  have hb := hC.2.1
  have hB : th_B G Γ Γ [(47, 0), (46, 0)] H0 H0 [] := ⟨hI, va_S.rf, th_F_rf⟩
  have hl : lv_has ls 2 [(0, .ref a0), (1, .int p1)] := hl
  have lp1 := ti_lo p1; have up1 := ti_hi p1
  obtain ⟨F, hF0⟩ : ∃ F, F = f_X12_refuses (dv G Γ H0) ((a0 : Int)) (p1.toInt) := ⟨_, rfl⟩
  have hF := hF0.trans (f_X12_refuses.eq_1 (dv G Γ H0) ((a0 : Int)) (p1.toInt))
  refine lv_aload_n hx hb dX12_refuses_0 rfl (lv_at hl 0 rfl) ?_
  refine lv_iload_n hx hb dX12_refuses_1 rfl (lv_at hl 1 rfl) ?_
  refine th_put hC cf_X12 hB h0 (Or.inl h0) ro_46 rfl (j := 0) rfl th_sIa (by decide) rfl rfl rfl kf_X12_3 dX12_refuses_2 (fun H2 locs hB hf hst2 => ?_)
  have hR := th_RC_F hB.1 hR hf (th_T_s h0 ro_46 hst2) (by decide)
  replace hF := hF.trans (dv_bn (dv_putI hB.1 h0 ro_46 (j := 0) rfl (th_apart hC cf_X12) hst2 (Eq.refl _) (by decide)))
  refine lv_aload_n hx hb dX12_refuses_5 rfl (lv_at hl 0 rfl) ?_
  refine th_getO (j := 1) (r2 := 47) hC cf_X12 hB.1 h0 ro_46 rfl rfl kf_X12_7 dX12_refuses_6 (fun b1 mb1 hb1 => ?_)
  refine lv_iload_n hx hb dX12_refuses_9 rfl (lv_at hl 1 rfl) ?_
  refine lv_ineg hx hb dX12_refuses_10 ?_
  refine lv_topi (fun x2 ex2 => ?_)
  replace hF := hF.trans (dv_bn (dv_neg_e (Eq.refl _) ex2))
  have fx2 := ti_neg (x := p1) (Eq.refl _) (by omega) (by omega)
  rw [← ex2] at fx2
  refine lv_dup2_11 hx hb dX12_refuses_11 rfl rfl ?_
  refine th_ialdF hC hB.1 hb1 ro_47 rfl (Eq.refl _) (by omega) (by omega) rfl dX12_refuses_12 (fun x3 mx3 lx3 ux3 => ?_)
  replace hF := hF.trans (dv_bn (dv_aldI hB.1 hU hb1 ow_47 (z := x2.toInt) mx3 (by omega)))
  refine lv_iconst (v := 1) hx hb dX12_refuses_13 (by decide) ?_
  refine lv_iadd hx hb dX12_refuses_14 ?_
  refine lv_topi (fun x4 ex4 => ?_)
  have lx4 := ti_lo x4; have ux4 := ti_hi x4
  replace hF := hF.trans (dv_bn (dv_add_e (Eq.refl _) tk_1 ex4))
  have hIo := hB.1
  refine th_iastF hC hB hb1 (Or.inl hb1) ro_47 rfl (by decide) (Eq.refl _) (by omega) (by omega) th_sIa dX12_refuses_15 (fun H15 locs hB hf15 hst15 => ?_)
  have hf := hf15
  have hR := th_RC_F hB.1 hR hf (th_T_s hb1 ro_47 hst15) (by decide)
  replace hF := hF.trans (dv_bn (dv_stoI hIo hB.1 hU hb1 ow_47 (i := x2.toInt) hst15 (Eq.refl _) (by omega)))
  refine lv_iload_n hx hb dX12_refuses_16 rfl (lv_at hl 1 rfl) ?_
  exact th_iret hC hH hr hlocks rfl hB.2.1 ⟨_, rfl, by intros; omega, hB.1, hB.2.2, hR, (hF0.symm.trans hF)⟩ dX12_refuses_17

set_option maxHeartbeats 4000000 in
set_option maxRecDepth 100000 in
theorem c_X12_goodOr (l : Launch) (G : th_G) (Γ : th_Ga) (H0 : Heap) (hI : th_I G Γ H0) (hR : th_RC G Γ H0) (hU : dv_U Γ) (a0 : Nat) (h0 : Γ a0 = (46, 0)) (p1 : Int32) (f1 : (-6) ≤ p1.toInt) : Met l yX12_goodOr (.code yX12_goodOr cX12_goodOr 2 (some FieldType.int) :: th_tb) ({ frames := 1, cells := 0, slots := 0, locals := 21 } : Room) (th_P [.ref a0, .int p1] G H0) (th_Q (fun (v : Option Value) (H1 : Heap) => ∃ r : Int32, v = some (.int r) ∧ th_I G Γ H1 ∧ th_F G Γ [(47, 0), (46, 0)] H0 H1 ∧ th_RC G Γ H1 ∧ (f_X12_goodOr (dv G Γ H0) (a0 : Int) p1.toInt = (dv G Γ H1, r.toInt))) G) 0 0 (fun q => G.2.2 ≤ q) := by
  refine th_met RX12 (by decide) rfl (Nat.le_of_ble_eq_true rfl) ?_
  intro p e s m below meth c hC hH hr hlocks hnm ls hl
  have hx := hC.1
  have hb := hC.2.1
  have hB : th_B G Γ Γ [(47, 0), (46, 0)] H0 H0 [] := ⟨hI, va_S.rf, th_F_rf⟩
  have hl : lv_has ls 2 [(0, .ref a0), (1, .int p1)] := hl
  have lp1 := ti_lo p1; have up1 := ti_hi p1
  obtain ⟨F, hF0⟩ : ∃ F, F = f_X12_goodOr (dv G Γ H0) ((a0 : Int)) (p1.toInt) := ⟨_, rfl⟩
  have hF := hF0.trans (f_X12_goodOr.eq_1 (dv G Γ H0) ((a0 : Int)) (p1.toInt))
  refine lv_iload_n hx hb dX12_goodOr_0 rfl (lv_at hl 1 rfl) ?_
  refine tr_if_ge (tgt := 12) hx hb dX12_goodOr_1 (by decide) (Eq.refl _) (fun c1 => ?_) (fun c1 => ?_)
  · replace hF := hF.trans (if_pos c1)
    refine lv_aload_n hx hb dX12_goodOr_12 rfl (lv_at hl 0 rfl) ?_
    refine lv_iload_n hx hb dX12_goodOr_13 rfl (lv_at hl 1 rfl) ?_
    refine th_call (th_runV (As := [.int p1]) (rest := []) hC mf_X12_good km_X12_14 im_X12_good se_X12_good (c_X12_good l G Γ H0 hB.1 hR hU a0 h0 p1) rfl rfl ⟨Nat.le_of_ble_eq_true rfl, Nat.le_of_ble_eq_true rfl⟩ hB.1 h0 ro_46 rfl rfl hl.1 rfl (Nat.le_of_ble_eq_true rfl) dX12_goodOr_14 ⟨Nat.le_refl _, Nat.le_refl _⟩) hB.2.1 (fun v14 H14 locs hp hz hS => ?_)
    obtain ⟨x1, rfl, q14_0, hI1, hf, hR, z14_0⟩ := hp
    have hB := th_B_c hB hI1 hS hf (by decide)
    replace hF := hF.trans (dv_bn2 (z14_0))
    refine W.eq (g2 := F0 m 17 ls [.int x1]) rfl ?_
    exact th_iret hC hH hr hlocks rfl hB.2.1 ⟨_, rfl, hB.1, hB.2.2, hR, (hF0.symm.trans hF)⟩ dX12_goodOr_17
  · replace hF := hF.trans (if_neg (Int.not_le.mpr c1))
    refine lv_aload_n hx hb dX12_goodOr_4 rfl (lv_at hl 0 rfl) ?_
    refine lv_iload_n hx hb dX12_goodOr_5 rfl (lv_at hl 1 rfl) ?_
    refine th_call (th_runV (As := [.int p1]) (rest := []) hC mf_X12_refuses km_X12_109 im_X12_refuses se_X12_refuses (c_X12_refuses l G Γ H0 hB.1 hR hU a0 h0 p1 (by omega) (by omega)) rfl rfl ⟨Nat.le_of_ble_eq_true rfl, Nat.le_of_ble_eq_true rfl⟩ hB.1 h0 ro_46 rfl rfl hl.1 rfl (Nat.le_of_ble_eq_true rfl) dX12_goodOr_6 ⟨Nat.le_refl _, Nat.le_refl _⟩) hB.2.1 (fun v6 H6 locs hp hz hS => ?_)
    obtain ⟨x2, rfl, q6_0, hI1, hf, hR, z6_0⟩ := hp
    have hB := th_B_c hB hI1 hS hf (by decide)
    replace hF := hF.trans (dv_bn2 (z6_0))
    refine W.eq (g2 := F0 m 9 ls [.int x2]) rfl ?_
    refine lv_goto (tgt := 17) hx hb dX12_goodOr_9 (by decide) ?_
    exact th_iret hC hH hr hlocks rfl hB.2.1 ⟨_, rfl, hB.1, hB.2.2, hR, (hF0.symm.trans hF)⟩ dX12_goodOr_17

set_option maxHeartbeats 4000000 in
set_option maxRecDepth 100000 in
theorem c_X12_settled (l : Launch) (G : th_G) (Γ : th_Ga) (H0 : Heap) (hI : th_I G Γ H0) (hR : th_RC G Γ H0) (hU : dv_U Γ) (a0 : Nat) (h0 : Γ a0 = (46, 0)) (p1 : Int32) : Met l yX12_settled (.code yX12_settled cX12_settled 2 (some FieldType.int) :: th_tb) ({ frames := 1, cells := 0, slots := 0, locals := 21 } : Room) (th_P [.ref a0, .int p1] G H0) (th_Q (fun (v : Option Value) (H1 : Heap) => ∃ r : Int32, v = some (.int r) ∧ (r.toInt = p1.toInt) ∧ th_I G Γ H1 ∧ th_F G Γ [(46, 0), (46, 33)] H0 H1 ∧ th_RC G Γ H1 ∧ (mo_f G H1 a0 33 = 0) ∧ (f_X12_settled (dv G Γ H0) (a0 : Int) p1.toInt = (dv G Γ H1, r.toInt))) G) 0 0 (fun q => G.2.2 ≤ q) := by
  refine th_met RX12 (by decide) rfl (Nat.le_of_ble_eq_true rfl) ?_
  intro p e s m below meth c hC hH hr hlocks hnm ls hl
  have hx := hC.1
  have hb := hC.2.1
  have hB : th_B G Γ Γ [(46, 0), (46, 33)] H0 H0 [] := ⟨hI, va_S.rf, th_F_rf⟩
  have hl : lv_has ls 2 [(0, .ref a0), (1, .int p1)] := hl
  have lp1 := ti_lo p1; have up1 := ti_hi p1
  obtain ⟨F, hF0⟩ : ∃ F, F = f_X12_settled (dv G Γ H0) ((a0 : Int)) (p1.toInt) := ⟨_, rfl⟩
  have hF := hF0.trans (f_X12_settled.eq_1 (dv G Γ H0) ((a0 : Int)) (p1.toInt))
  refine lv_aload_n hx hb dX12_settled_0 rfl (lv_at hl 0 rfl) ?_
  refine lv_iconst (v := 0) hx hb dX12_settled_1 (by decide) ?_
  refine th_put hC cf_X12 hB h0 (Or.inl h0) ro_46 rfl (j := 33) rfl (th_sI (by decide) (by decide)) (by decide) rfl rfl rfl kf_X12_11 dX12_settled_2 (fun H2 locs hB hf hst2 => ?_)
  have hR := th_RC_F hB.1 hR hf (th_T_s h0 ro_46 hst2) (by decide)
  replace hF := hF.trans (dv_bn (dv_putI hB.1 h0 ro_46 (j := 33) rfl (th_apart hC cf_X12) hst2 tk_0 (by decide)))
  have fp2 : mo_f G H2 a0 33 = 0 := (mo_f_St hst2).trans tk_0
  refine lv_aload_n hx hb dX12_settled_5 rfl (lv_at hl 0 rfl) ?_
  refine lv_iload_n hx hb dX12_settled_6 rfl (lv_at hl 1 rfl) ?_
  refine th_call (th_runV (As := [.int p1]) (rest := []) hC mf_X12_good km_X12_14 im_X12_good se_X12_good (c_X12_good l G Γ H2 hB.1 hR hU a0 h0 p1) rfl rfl ⟨Nat.le_of_ble_eq_true rfl, Nat.le_of_ble_eq_true rfl⟩ hB.1 h0 ro_46 rfl rfl hl.1 rfl (Nat.le_of_ble_eq_true rfl) dX12_settled_7 ⟨Nat.le_refl _, Nat.le_refl _⟩) hB.2.1 (fun v7 H7 locs hp hz hS => ?_)
  obtain ⟨x1, rfl, q7_0, hI1, hf, hR, z7_0⟩ := hp
  have hB := th_B_c hB hI1 hS hf (by decide)
  have fv_H7_33 : mo_f G H7 a0 33 = mo_f G H2 a0 33 := mo_f_F hf h0 (by decide) (by decide)
  replace hF := hF.trans (dv_bn2 (z7_0))
  refine W.eq (g2 := F0 m 10 ls [.int x1]) rfl ?_
  exact th_iret hC hH hr hlocks rfl hB.2.1 ⟨_, rfl, by intros; omega, hB.1, hB.2.2, hR, by omega, (hF0.symm.trans hF)⟩ dX12_settled_10

set_option maxHeartbeats 4000000 in
set_option maxRecDepth 100000 in
theorem c_X12_small (l : Launch) (G : th_G) (Γ : th_Ga) (H0 : Heap) (hI : th_I G Γ H0) (hU : dv_U Γ) (p1 : Int64) : Met l yX12_small (.code yX12_small cX12_small 2 (some FieldType.int) :: th_tb) ({ frames := 0, cells := 0, slots := 0, locals := 0 } : Room) (th_P [.long p1] G H0) (th_Q (fun (v : Option Value) (H1 : Heap) => ∃ r : Int32, v = some (.int r) ∧ (-1) ≤ r.toInt ∧ r.toInt ≤ 1000000 ∧ (f_X12_small (dv G Γ H0) p1.toInt = (r.toInt, ())) ∧ H0 = H1) G) 0 0 (fun q => G.2.2 ≤ q) := by
  refine th_met RX12 (by decide) rfl (Nat.le_of_ble_eq_true rfl) ?_
  intro p e s m below meth c hC hH hr hlocks hnm ls hl
  have hx := hC.1
  have hb := hC.2.1
  have hB : th_B G Γ Γ [] H0 H0 [] := ⟨hI, va_S.rf, th_F_rf⟩
  have hl : lv_has ls 2 [(0, .long p1)] := hl
  obtain ⟨F, hF0⟩ : ∃ F, F = f_X12_small (dv G Γ H0) (p1.toInt) := ⟨_, rfl⟩
  have hF := hF0.trans (f_X12_small.eq_1 (dv G Γ H0) (p1.toInt))
  refine lv_lload_n hx hb dX12_small_0 rfl (lv_at hl 0 rfl) ?_
  have l0 : (0 : Int64).toInt = 0 := rfl
  have l1 : (1000000 : Int64).toInt = 1000000 := rfl
  refine lv_lconst (v := 0) hx hb dX12_small_1 rfl ?_
  refine tr_lcmp2 hx hb dX12_small_2 (fun x1 fx1 gx1 ix1 => ?_)
  replace hF := hF.trans (dv_bn (dv_lcmp_e (Eq.refl (p1.toInt)) (rfl : (0 : Int64).toInt = 0) fx1 ix1))
  refine tr_if_lt (tgt := 14) hx hb dX12_small_3 (by decide) (Eq.refl _) (fun c3 => ?_) (fun c3 => ?_)
  · replace hF := hF.trans (if_pos c3)
    refine lv_iconst (v := (-1)) hx hb dX12_small_14 (by decide) ?_
    refine lv_goto (tgt := 20) hx hb dX12_small_15 (by decide) ?_
    exact th_iret hC hH hr hlocks rfl hB.2.1 ⟨_, rfl, by decide, by decide, (hF0.symm.trans (hF.trans (by rw [tk_m1]))), rfl⟩ dX12_small_20
  · replace hF := hF.trans (if_neg (Int.not_lt.mpr c3))
    refine lv_lload_n hx hb dX12_small_6 rfl (lv_at hl 0 rfl) ?_
    refine lv_ldc2 (v := 1000000) hx hb hC.2.2.2.1 (hC.2.2.2.2.1 _ kw_1933) dX12_small_7 ?_
    refine tr_lcmp2 hx hb dX12_small_10 (fun x2 fx2 gx2 ix2 => ?_)
    replace hF := hF.trans (dv_bn (dv_lcmp_e (Eq.refl (p1.toInt)) (rfl : (1000000 : Int64).toInt = 1000000) fx2 ix2))
    refine tr_if_le (tgt := 18) hx hb dX12_small_11 (by decide) (Eq.refl _) (fun c11 => ?_) (fun c11 => ?_)
    · replace hF := hF.trans (if_pos c11)
      refine lv_lload_n hx hb dX12_small_18 rfl (lv_at hl 0 rfl) ?_
      refine lv_l2i hx hb dX12_small_19 rfl ?_
      refine lv_topi (fun x3 ex3 => ?_)
      have lx3 := ti_lo x3; have ux3 := ti_hi x3
      replace hF := hF.trans (dv_bn (dv_l2i_e (Eq.refl (p1.toInt)) ex3))
      have f19 := ti_l2i ex3 (by omega) (by omega)
      exact th_iret hC hH hr hlocks rfl hB.2.1 ⟨_, rfl, by omega, by omega, (hF0.symm.trans hF), rfl⟩ dX12_small_20
    · replace hF := hF.trans (if_neg (Int.not_le.mpr c11))
      refine lv_iconst (v := (-1)) hx hb dX12_small_14 (by decide) ?_
      refine lv_goto (tgt := 20) hx hb dX12_small_15 (by decide) ?_
      exact th_iret hC hH hr hlocks rfl hB.2.1 ⟨_, rfl, by decide, by decide, (hF0.symm.trans (hF.trans (by rw [tk_m1]))), rfl⟩ dX12_small_20

set_option maxHeartbeats 4000000 in
set_option maxRecDepth 100000 in
theorem c_X12_end (l : Launch) (G : th_G) (Γ : th_Ga) (H0 : Heap) (hI : th_I G Γ H0) (hR : th_RC G Γ H0) (hU : dv_U Γ) (a0 : Nat) (h0 : Γ a0 = (46, 0)) (p1 : Int32) : Met l yX12_end (.code yX12_end cX12_end 2 (some FieldType.int) :: th_tb) ({ frames := 1, cells := 0, slots := 0, locals := 22 } : Room) (th_P [.ref a0, .int p1] G H0) (th_Q (fun (v : Option Value) (H1 : Heap) => ∃ r : Int32, v = some (.int r) ∧ th_I G Γ H1 ∧ th_F G Γ [(46, 13)] H0 H1 ∧ th_RC G Γ H1 ∧ (f_X12_end (dv G Γ H0) (a0 : Int) p1.toInt = (dv G Γ H1, r.toInt))) G) 0 0 (fun q => G.2.2 ≤ q) := by
  refine th_met RX12 (by decide) rfl (Nat.le_of_ble_eq_true rfl) ?_
  intro p e s m below meth c hC hH hr hlocks hnm ls hl
  have hx := hC.1
  have hb := hC.2.1
  have hB : th_B G Γ Γ [(46, 13)] H0 H0 [] := ⟨hI, va_S.rf, th_F_rf⟩
  have hl : lv_has ls 2 [(0, .ref a0), (1, .int p1)] := hl
  have lp1 := ti_lo p1; have up1 := ti_hi p1
  obtain ⟨F, hF0⟩ : ∃ F, F = f_X12_end (dv G Γ H0) ((a0 : Int)) (p1.toInt) := ⟨_, rfl⟩
  have hF := hF0.trans (f_X12_end.eq_1 (dv G Γ H0) ((a0 : Int)) (p1.toInt))
  refine lv_iload_n hx hb dX12_end_0 rfl (lv_at hl 1 rfl) ?_
  refine lv_iconst (v := 0) hx hb dX12_end_1 (by decide) ?_
  refine lv_aload_n hx hb dX12_end_2 rfl (lv_at hl 0 rfl) ?_
  refine th_getI (j := 13) hC cf_X12 hB.1 h0 ro_46 rfl rfl kf_X12_169 dX12_end_3 (fun x1 mx1 lx1 ux1 => ?_)
  replace hF := hF.trans (dv_bn (dv_getI h0 ro_46 (j := 13) rfl mx1 (by decide)))
  refine th_call (th_runS (As := [.int p1, .int 0, .int x1]) (rest := []) hC mf_X12_lies km_X12_18 st_X12_lies (c_X12_lies l G Γ H0 hB.1 hU p1 0 x1) rfl rfl ⟨Nat.le_of_ble_eq_true rfl, Nat.le_of_ble_eq_true rfl⟩ rfl hl.1 rfl (Nat.le_of_ble_eq_true rfl) dX12_end_6 ⟨Nat.le_refl _, Nat.le_refl _⟩) hB.2.1 (fun v6 H6 locs hp hz hS => ?_)
  obtain ⟨x2, rfl, lx2, ux2, q6_0, q6_1, q6_2, rfl⟩ := hp
  have hB := th_B_s hB hS
  have w6_1 := tk_0
  have zf6 := q6_2
  rw [tk_0] at zf6
  replace hF := hF.trans (dv_bn2 (zf6))
  refine W.eq (g2 := F0 m 9 ls [.int x2]) rfl ?_
  refine tr_if_ne (tgt := 14) hx hb dX12_end_9 (by decide) (Eq.refl _) (fun c9 => ?_) (fun c9 => ?_)
  · replace hF := hF.trans (if_pos c9)
    refine lv_aload_n hx hb dX12_end_14 rfl (lv_at hl 0 rfl) ?_
    refine lv_iload_n hx hb dX12_end_15 rfl (lv_at hl 1 rfl) ?_
    refine th_put hC cf_X12 hB h0 (Or.inl h0) ro_46 rfl (j := 13) rfl (th_sI (by omega) (by omega)) (by decide) rfl rfl rfl kf_X12_169 dX12_end_16 (fun H16 locs hB hf hst16 => ?_)
    have hR := th_RC_F hB.1 hR hf (th_T_s h0 ro_46 hst16) (by decide)
    replace hF := hF.trans (dv_bn (dv_putI hB.1 h0 ro_46 (j := 13) rfl (th_apart hC cf_X12) hst16 (Eq.refl _) (by decide)))
    refine lv_iload_n hx hb dX12_end_19 rfl (lv_at hl 1 rfl) ?_
    exact th_iret hC hH hr hlocks rfl hB.2.1 ⟨_, rfl, hB.1, hB.2.2, hR, (hF0.symm.trans hF)⟩ dX12_end_20
  · replace hF := hF.trans (if_neg (not_not_intro c9))
    refine lv_iconst (v := (-1)) hx hb dX12_end_12 (by decide) ?_
    exact th_iret hC hH hr hlocks rfl hB.2.1 ⟨_, rfl, hB.1, hB.2.2, hR, (hF0.symm.trans (hF.trans (by rw [tk_m1])))⟩ dX12_end_13

set_option maxHeartbeats 4000000 in
set_option maxRecDepth 100000 in
theorem c_X12_feed (l : Launch) (G : th_G) (Γ : th_Ga) (H0 : Heap) (hI : th_I G Γ H0) (hR : th_RC G Γ H0) (hU : dv_U Γ) (a0 : Nat) (h0 : Γ a0 = (46, 0)) (p1 : Int32) (p2 : Int32) (p3 : Int32) (p4 : Int32) (p5 : Int32) : Met l yX12_feed (.code yX12_feed cX12_feed 7 (some FieldType.int) :: th_tb) ({ frames := 0, cells := 0, slots := 0, locals := 0 } : Room) (th_P [.ref a0, .int p1, .int p2, .int p3, .int p4, .int p5] G H0) (th_Q (fun (v : Option Value) (H1 : Heap) => ∃ r : Int32, v = some (.int r) ∧ th_I G Γ H1 ∧ th_F G Γ [(46, 13), (54, 0), (53, 0)] H0 H1 ∧ th_RC G Γ H1 ∧ (f_X12_feed (dv G Γ H0) (a0 : Int) p1.toInt p2.toInt p3.toInt p4.toInt p5.toInt = (dv G Γ H1, r.toInt))) G) 0 0 (fun q => G.2.2 ≤ q) := by
  refine th_met RX12 (by decide) rfl (Nat.le_of_ble_eq_true rfl) ?_
  intro p e s m below meth c hC hH hr hlocks hnm ls hl
  have hx := hC.1
  have hb := hC.2.1
  have hB : th_B G Γ Γ [(46, 13), (54, 0), (53, 0)] H0 H0 [] := ⟨hI, va_S.rf, th_F_rf⟩
  have hl : lv_has ls 7 [(0, .ref a0), (1, .int p1), (2, .int p2), (3, .int p3), (4, .int p4), (5, .int p5)] := hl
  have lp1 := ti_lo p1; have up1 := ti_hi p1
  have lp2 := ti_lo p2; have up2 := ti_hi p2
  have lp3 := ti_lo p3; have up3 := ti_hi p3
  have lp4 := ti_lo p4; have up4 := ti_hi p4
  have lp5 := ti_lo p5; have up5 := ti_hi p5
  obtain ⟨F, hF0⟩ : ∃ F, F = f_X12_feed (dv G Γ H0) ((a0 : Int)) (p1.toInt) (p2.toInt) (p3.toInt) (p4.toInt) (p5.toInt) := ⟨_, rfl⟩
  have hF := hF0.trans (f_X12_feed.eq_1 (dv G Γ H0) ((a0 : Int)) (p1.toInt) (p2.toInt) (p3.toInt) (p4.toInt) (p5.toInt))
  refine lv_aload_n hx hb dX12_feed_0 rfl (lv_at hl 0 rfl) ?_
  refine th_getI (j := 13) hC cf_X12 hB.1 h0 ro_46 rfl rfl kf_X12_169 dX12_feed_1 (fun x1 mx1 lx1 ux1 => ?_)
  replace hF := hF.trans (dv_bn (dv_getI h0 ro_46 (j := 13) rfl mx1 (by decide)))
  have fg2 : mo_f G H0 a0 13 = x1.toInt := mo_fat mx1
  refine lv_bipush (v := 20) hx hb dX12_feed_4 (by decide) ?_
  refine tr_iadd hx hb dX12_feed_6 (Eq.refl _) tk_20 (by omega) (by omega) (fun x3 ex3 => ?_)
  replace hF := hF.trans (dv_bn (ex3.symm))
  refine lv_sipush (v := 400) hx hb dX12_feed_7 (by decide) ?_
  refine tr_icmp_le (tgt := 15) hx hb dX12_feed_10 (by decide) (Eq.refl _) tk_400 (fun c10 => ?_) (fun c10 => ?_)
  · replace hF := hF.trans (if_pos c10)
    refine lv_aload_n hx hb dX12_feed_15 rfl (lv_at hl 0 rfl) ?_
    refine th_getO (j := 12) (r2 := 54) hC cf_X12 hB.1 h0 ro_46 rfl rfl kf_X12_48 dX12_feed_16 (fun b4 mb4 hb4 => ?_)
    refine lv_iconst (v := 0) hx hb dX12_feed_19 (by decide) ?_
    refine lv_iload_n hx hb dX12_feed_20 rfl (lv_at hl 1 rfl) ?_
    have hIo := hB.1
    refine th_iastF hC hB hb4 (Or.inl hb4) ro_54 rfl (by decide) tk_0 (by omega) (by omega) th_sIa dX12_feed_21 (fun H21 locs hB hf21 hst21 => ?_)
    have hf := hf21
    have mm5 := (th_F_o hf h0 ro_46 (j := 13) (by decide) (by decide)).trans mx1
    have mm6 := (th_F_o hf h0 ro_46 (j := 12) (by decide) (by decide)).trans mb4
    have hR := th_RC_F hB.1 hR hf (th_T_s hb4 ro_54 hst21) (by decide)
    have fv_H21_13 : mo_f G H21 a0 13 = mo_f G H0 a0 13 := mo_f_F hf h0 (by decide) (by decide)
    replace hF := hF.trans (dv_bn (dv_stoI hIo hB.1 hU hb4 ow_54 (i := 0) hst21 (Eq.refl _) (by omega)))
    refine lv_aload_n hx hb dX12_feed_22 rfl (lv_at hl 0 rfl) ?_
    refine th_getK hC cf_X12 hB.1 h0 ro_46 rfl (j := 12) (by decide) mm6 kf_X12_48 dX12_feed_23 ?_
    refine lv_iconst (v := 1) hx hb dX12_feed_26 (by decide) ?_
    refine lv_iload_n hx hb dX12_feed_27 rfl (lv_at hl 2 rfl) ?_
    have hIo := hB.1
    refine th_iastF hC hB hb4 (Or.inl hb4) ro_54 rfl (by decide) tk_1 (by omega) (by omega) th_sIa dX12_feed_28 (fun H28 locs hB hf28 hst28 => ?_)
    have hf := hf28
    have mm7 := (th_F_o hf h0 ro_46 (j := 13) (by decide) (by decide)).trans mm5
    have mm8 := (th_F_o hf h0 ro_46 (j := 12) (by decide) (by decide)).trans mm6
    have hR := th_RC_F hB.1 hR hf (th_T_s hb4 ro_54 hst28) (by decide)
    have fv_H28_13 : mo_f G H28 a0 13 = mo_f G H21 a0 13 := mo_f_F hf h0 (by decide) (by decide)
    replace hF := hF.trans (dv_bn (dv_stoI hIo hB.1 hU hb4 ow_54 (i := 1) hst28 (Eq.refl _) (by omega)))
    refine lv_aload_n hx hb dX12_feed_29 rfl (lv_at hl 0 rfl) ?_
    refine th_getK hC cf_X12 hB.1 h0 ro_46 rfl (j := 12) (by decide) mm8 kf_X12_48 dX12_feed_30 ?_
    refine lv_iconst (v := 2) hx hb dX12_feed_33 (by decide) ?_
    refine lv_iload_n hx hb dX12_feed_34 rfl (lv_at hl 3 rfl) ?_
    have hIo := hB.1
    refine th_iastF hC hB hb4 (Or.inl hb4) ro_54 rfl (by decide) tk_2 (by omega) (by omega) th_sIa dX12_feed_35 (fun H35 locs hB hf35 hst35 => ?_)
    have hf := hf35
    have mm9 := (th_F_o hf h0 ro_46 (j := 13) (by decide) (by decide)).trans mm7
    have mm10 := (th_F_o hf h0 ro_46 (j := 12) (by decide) (by decide)).trans mm8
    have hR := th_RC_F hB.1 hR hf (th_T_s hb4 ro_54 hst35) (by decide)
    have fv_H35_13 : mo_f G H35 a0 13 = mo_f G H28 a0 13 := mo_f_F hf h0 (by decide) (by decide)
    replace hF := hF.trans (dv_bn (dv_stoI hIo hB.1 hU hb4 ow_54 (i := 2) hst35 (Eq.refl _) (by omega)))
    refine lv_aload_n hx hb dX12_feed_36 rfl (lv_at hl 0 rfl) ?_
    refine th_getK hC cf_X12 hB.1 h0 ro_46 rfl (j := 12) (by decide) mm10 kf_X12_48 dX12_feed_37 ?_
    refine lv_iconst (v := 3) hx hb dX12_feed_40 (by decide) ?_
    refine lv_iload hx hb dX12_feed_41 (lv_at hl 4 rfl) ?_
    have hIo := hB.1
    refine th_iastF hC hB hb4 (Or.inl hb4) ro_54 rfl (by decide) tk_3 (by omega) (by omega) th_sIa dX12_feed_43 (fun H43 locs hB hf43 hst43 => ?_)
    have hf := hf43
    have mm11 := (th_F_o hf h0 ro_46 (j := 13) (by decide) (by decide)).trans mm9
    have mm12 := (th_F_o hf h0 ro_46 (j := 12) (by decide) (by decide)).trans mm10
    have hR := th_RC_F hB.1 hR hf (th_T_s hb4 ro_54 hst43) (by decide)
    have fv_H43_13 : mo_f G H43 a0 13 = mo_f G H35 a0 13 := mo_f_F hf h0 (by decide) (by decide)
    replace hF := hF.trans (dv_bn (dv_stoI hIo hB.1 hU hb4 ow_54 (i := 3) hst43 (Eq.refl _) (by omega)))
    refine lv_aload_n hx hb dX12_feed_44 rfl (lv_at hl 0 rfl) ?_
    refine th_getK hC cf_X12 hB.1 h0 ro_46 rfl (j := 12) (by decide) mm12 kf_X12_48 dX12_feed_45 ?_
    refine lv_iconst (v := 4) hx hb dX12_feed_48 (by decide) ?_
    refine lv_iload hx hb dX12_feed_49 (lv_at hl 5 rfl) ?_
    have hIo := hB.1
    refine th_iastF hC hB hb4 (Or.inl hb4) ro_54 rfl (by decide) tk_4 (by omega) (by omega) th_sIa dX12_feed_51 (fun H51 locs hB hf51 hst51 => ?_)
    have hf := hf51
    have mm13 := (th_F_o hf h0 ro_46 (j := 13) (by decide) (by decide)).trans mm11
    have mm14 := (th_F_o hf h0 ro_46 (j := 12) (by decide) (by decide)).trans mm12
    have hR := th_RC_F hB.1 hR hf (th_T_s hb4 ro_54 hst51) (by decide)
    have fv_H51_13 : mo_f G H51 a0 13 = mo_f G H43 a0 13 := mo_f_F hf h0 (by decide) (by decide)
    replace hF := hF.trans (dv_bn (dv_stoI hIo hB.1 hU hb4 ow_54 (i := 4) hst51 (Eq.refl _) (by omega)))
    refine lv_iconst (v := 0) hx hb dX12_feed_52 (by decide) ?_
    refine lv_istore (lv' := [(6, .int 0), (0, .ref a0), (1, .int p1), (2, .int p2), (3, .int p3), (4, .int p4), (5, .int p5)]) hx hb dX12_feed_53 hl (by decide) rfl (fun ls hl => ?_)
    have lp55 : ∀ (n55 : Nat) (H55 : Heap) (locs : List Loc) (ls : Array Slot) (j55_6 : Int32), th_B G Γ Γ [(46, 13), (54, 0), (53, 0)] H0 H55 locs → th_RC G Γ H55 → lv_has ls 7 [(0, .ref a0), (6, .int j55_6)] → F = dv_lp f_X12_feed_55b (dv G Γ H55, (a0 : Int), j55_6.toInt) → 0 ≤ j55_6.toInt → j55_6.toInt ≤ 20 → mo_f G H55 a0 13 ≤ 380 → th_sl H55 a0 (G.1.2 12 13) = .int x1 → (2147483648 : Int) - j55_6.toInt ≤ (n55 : Int) → W p l e ({ frames := 0, cells := 0, slots := 0, locals := 0 } : Room) s m ([.ref a0, .int p1, .int p2, .int p3, .int p4, .int p5] : List Value).toArray below meth c H55 locs 0 0 (MQ below (th_Q (fun (v : Option Value) (H1 : Heap) => ∃ r : Int32, v = some (.int r) ∧ th_I G Γ H1 ∧ th_F G Γ [(46, 13), (54, 0), (53, 0)] H0 H1 ∧ th_RC G Γ H1 ∧ (f_X12_feed (dv G Γ H0) (a0 : Int) p1.toInt p2.toInt p3.toInt p4.toInt p5.toInt = (dv G Γ H1, r.toInt))) G) ([.ref a0, .int p1, .int p2, .int p3, .int p4, .int p5] : List Value).toArray s 0 0 (fun q => G.2.2 ≤ q)) (F0 m 55 ls []) := by
      intro n55
      induction n55 with
      | zero => intro H55 locs ls j55_6 hB hR hl hF g55_0 g55_1 g55_2 g55_3 hm55; exact absurd hm55 (by have := ti_hi j55_6; omega)
      | succ n55 ih55 =>
        intro H55 locs ls j55_6 hB hR hl hF g55_0 g55_1 g55_2 g55_3 hm55
        have lj55_6 := ti_lo j55_6; have uj55_6 := ti_hi j55_6
        have mm15 := (th_F_o hB.2.2 h0 ro_46 (j := 12) (by decide) (by decide)).trans mb4
        have hm55 : (2147483648 : Int) - j55_6.toInt ≤ (n55 : Int) + 1 := by omega
        replace hF := hF.trans (dv_lp_eq)
        replace hF := hF.trans (congrArg (dv_k f_X12_feed_55b) (f_X12_feed_55c.eq_1 (dv G Γ H55) ((a0 : Int)) (j55_6.toInt)))
        refine lv_iload hx hb dX12_feed_55 (lv_at hl 1 rfl) ?_
        refine lv_bipush (v := 20) hx hb dX12_feed_57 (by decide) ?_
        refine tr_icmp_ge (tgt := 101) hx hb dX12_feed_59 (by decide) (Eq.refl _) tk_20 (fun c59 => ?_) (fun c59 => ?_)
        · replace hF := hF.trans (congrArg (dv_k f_X12_feed_55b) (if_pos c59))
          refine lv_aload_n hx hb dX12_feed_101 rfl (lv_at hl 0 rfl) ?_
          refine lv_dup hx hb dX12_feed_102 rfl ?_
          refine th_getK hC cf_X12 hB.1 h0 ro_46 rfl (j := 13) (by decide) g55_3 kf_X12_169 dX12_feed_103 ?_
          replace hF := hF.trans (congrArg (dv_k f_X12_feed_55b) (dv_bn (dv_getI h0 ro_46 (j := 13) rfl g55_3 (by decide))))
          have fg16 : mo_f G H55 a0 13 = x1.toInt := mo_fat g55_3
          refine lv_bipush (v := 20) hx hb dX12_feed_106 (by decide) ?_
          refine tr_iadd hx hb dX12_feed_108 (Eq.refl _) tk_20 (by omega) (by omega) (fun x17 ex17 => ?_)
          replace hF := hF.trans (congrArg (dv_k f_X12_feed_55b) (dv_bn (ex17.symm)))
          refine th_put hC cf_X12 hB h0 (Or.inl h0) ro_46 rfl (j := 13) rfl (th_sI (by omega) (by omega)) (by decide) rfl rfl rfl kf_X12_169 dX12_feed_109 (fun H109 locs hB hf hst109 => ?_)
          have mm18 := (th_F_o hf h0 ro_46 (j := 12) (by decide) (by decide)).trans mm15
          have hR := th_RC_F hB.1 hR hf (th_T_s h0 ro_46 hst109) (by decide)
          replace hF := hF.trans (congrArg (dv_k f_X12_feed_55b) (dv_bn (dv_putI hB.1 h0 ro_46 (j := 13) rfl (th_apart hC cf_X12) hst109 (Eq.refl _) (by decide))))
          have fp109 : mo_f G H109 a0 13 = x17.toInt := mo_f_St hst109
          have mm19 := hst109.2.1
          refine lv_aload_n hx hb dX12_feed_112 rfl (lv_at hl 0 rfl) ?_
          refine th_getK hC cf_X12 hB.1 h0 ro_46 rfl (j := 13) (by decide) mm19 kf_X12_169 dX12_feed_113 ?_
          replace hF := hF.trans (congrArg (dv_k f_X12_feed_55b) (dv_bn (dv_getI h0 ro_46 (j := 13) rfl mm19 (by decide))))
          have fg20 : mo_f G H109 a0 13 = x17.toInt := mo_fat mm19
          replace hF := hF.trans (dv_kr)
          exact th_iret hC hH hr hlocks rfl hB.2.1 ⟨_, rfl, hB.1, hB.2.2, hR, (hF0.symm.trans hF)⟩ dX12_feed_116
        · replace hF := hF.trans (congrArg (dv_k f_X12_feed_55b) (if_neg (Int.not_le.mpr c59)))
          refine lv_aload_n hx hb dX12_feed_62 rfl (lv_at hl 0 rfl) ?_
          refine th_getO (j := 11) (r2 := 53) hC cf_X12 hB.1 h0 ro_46 rfl rfl kf_X12_45 dX12_feed_63 (fun b21 mb21 hb21 => ?_)
          have sb21 := (th_F_o hB.2.2 h0 ro_46 (j := 11) (by decide) (by decide)).symm.trans mb21
          refine lv_aload_n hx hb dX12_feed_66 rfl (lv_at hl 0 rfl) ?_
          refine th_getK hC cf_X12 hB.1 h0 ro_46 rfl (j := 13) (by decide) g55_3 kf_X12_169 dX12_feed_67 ?_
          replace hF := hF.trans (congrArg (dv_k f_X12_feed_55b) (dv_bn (dv_getI h0 ro_46 (j := 13) rfl g55_3 (by decide))))
          have fg22 : mo_f G H55 a0 13 = x1.toInt := mo_fat g55_3
          refine lv_iload hx hb dX12_feed_70 (lv_at hl 1 rfl) ?_
          refine tr_iadd hx hb dX12_feed_72 (Eq.refl _) (Eq.refl _) (by omega) (by omega) (fun x23 ex23 => ?_)
          replace hF := hF.trans (congrArg (dv_k f_X12_feed_55b) (dv_bn (ex23.symm)))
          refine lv_aload_n hx hb dX12_feed_73 rfl (lv_at hl 0 rfl) ?_
          refine th_getK hC cf_X12 hB.1 h0 ro_46 rfl (j := 12) (by decide) mm15 kf_X12_48 dX12_feed_74 ?_
          refine lv_iload hx hb dX12_feed_77 (lv_at hl 1 rfl) ?_
          refine lv_iconst (v := 4) hx hb dX12_feed_79 (by decide) ?_
          refine tr_idiv hx hb dX12_feed_80 (Eq.refl _) tk_4 (by omega) (by omega) (fun x24 ex24 => ?_)
          replace hF := hF.trans (congrArg (dv_k f_X12_feed_55b) (dv_bn (ex24.symm)))
          refine th_ialdF hC hB.1 hb4 ro_54 rfl (Eq.refl _) (by omega) (by omega) rfl dX12_feed_81 (fun x25 mx25 lx25 ux25 => ?_)
          replace hF := hF.trans (congrArg (dv_k f_X12_feed_55b) (dv_bn (dv_aldI hB.1 hU hb4 ow_54 (z := x24.toInt) mx25 (by omega))))
          refine lv_bipush (v := 24) hx hb dX12_feed_82 (by decide) ?_
          refine lv_bipush (v := 8) hx hb dX12_feed_84 (by decide) ?_
          refine lv_iload hx hb dX12_feed_86 (lv_at hl 1 rfl) ?_
          refine lv_iconst (v := 4) hx hb dX12_feed_88 (by decide) ?_
          refine tr_irem hx hb dX12_feed_89 (Eq.refl _) tk_4 (by omega) (by omega) (fun x26 ex26 => ?_)
          replace hF := hF.trans (congrArg (dv_k f_X12_feed_55b) (dv_bn (ex26.symm)))
          refine tr_imul hx hb dX12_feed_90 tk_8 (Eq.refl _) (by omega) (by omega) (fun x27 ex27 => ?_)
          replace hF := hF.trans (congrArg (dv_k f_X12_feed_55b) (dv_bn (ex27.symm)))
          refine tr_isub hx hb dX12_feed_91 tk_24 (Eq.refl _) (by omega) (by omega) (fun x28 ex28 => ?_)
          replace hF := hF.trans (congrArg (dv_k f_X12_feed_55b) (dv_bn (ex28.symm)))
          refine lv_ishr hx hb dX12_feed_92 ?_
          refine lv_topi (fun x29 ex29 => ?_)
          have lx29 := ti_lo x29; have ux29 := ti_hi x29
          replace hF := hF.trans (congrArg (dv_k f_X12_feed_55b) (dv_bn (dv_shr_e (Eq.refl _) (Eq.refl _) ex29)))
          refine lv_i2b hx hb dX12_feed_93 rfl ?_
          refine lv_topi (fun x30 ex30 => ?_)
          have lx30 := ti_lo x30; have ux30 := ti_hi x30
          replace hF := hF.trans (congrArg (dv_k f_X12_feed_55b) (dv_bn (dv_i2b_e (Eq.refl _) ex30)))
          have hIo := hB.1
          refine th_bastF hC hB hb21 (Or.inl hb21) ro_53 rfl (by decide) (Eq.refl _) (by omega) (by omega) (th_sI (ti_byte _).1 (ti_byte _).2) (narrow_byte _) dX12_feed_94 (fun H94 locs hB hf94 hst94 => ?_)
          have hf := hf94
          have mm31 := (th_F_o hf h0 ro_46 (j := 13) (by decide) (by decide)).trans g55_3
          have mm32 := (th_F_o hf h0 ro_46 (j := 12) (by decide) (by decide)).trans mm15
          have mm33 := (th_F_o hf h0 ro_46 (j := 11) (by decide) (by decide)).trans mb21
          have hR := th_RC_F hB.1 hR hf (th_T_s hb21 ro_53 hst94) (by decide)
          have fv_H94_13 : mo_f G H94 a0 13 = mo_f G H55 a0 13 := mo_f_F hf h0 (by decide) (by decide)
          replace hF := hF.trans (congrArg (dv_k f_X12_feed_55b) (dv_bn (dv_stoI hIo hB.1 hU hb21 ow_53 (i := x23.toInt) hst94 (dv_i2b_e (Eq.refl _) rfl).symm (by omega))))
          refine tr_iinc (fun x34 => [(6, .int x34), (0, .ref a0)]) hx hb dX12_feed_95 hl (k := 1) rfl (Eq.refl _) tk_1 (by omega) (by omega) (by decide) (fun _ => rfl) (fun x34 ls ex34 hl => ?_)
          replace hF := hF.trans (congrArg (dv_k f_X12_feed_55b) (dv_bn (ex34.symm)))
          refine lv_goto (tgt := 55) hx hb dX12_feed_98 (by decide) ?_
          replace hF := hF.trans (dv_kl)
          exact ih55 H94 locs ls x34 hB hR (lv_sub hl [1, 0] rfl) hF (by omega) (by omega) (by omega) mm31 (by omega)
    exact lp55 ((2147483648 : Int) - (0)).toNat H51 locs ls 0 hB hR (lv_sub hl [1, 0] rfl) (by rw [tk_0]; exact hF) (by decide) (by decide) (by have w0 := tk_0; omega) mm13 (by have w0 := tk_0; omega)
  · replace hF := hF.trans (if_neg (Int.not_le.mpr c10))
    refine lv_iconst (v := (-1)) hx hb dX12_feed_13 (by decide) ?_
    exact th_iret hC hH hr hlocks rfl hB.2.1 ⟨_, rfl, hB.1, hB.2.2, hR, (hF0.symm.trans (hF.trans (by rw [tk_m1])))⟩ dX12_feed_14

set_option maxHeartbeats 4000000 in
set_option maxRecDepth 100000 in
theorem c_X12_few (l : Launch) (G : th_G) (Γ : th_Ga) (H0 : Heap) (hI : th_I G Γ H0) (hR : th_RC G Γ H0) (hU : dv_U Γ) (a0 : Nat) (h0 : Γ a0 = (46, 0)) (p1 : Int32) (p2 : Int32) : Met l yX12_few (.code yX12_few cX12_few 6 (some FieldType.long) :: th_tb) ({ frames := 1, cells := 0, slots := 0, locals := 22 } : Room) (th_P [.ref a0, .int p1, .int p2] G H0) (th_Q (fun (v : Option Value) (H1 : Heap) => ∃ r : Int64, v = some (.long r) ∧ th_I G Γ H1 ∧ th_F G Γ [(68, 0)] H0 H1 ∧ th_RC G Γ H1) G) 0 0 (fun q => G.2.2 ≤ q) := by
  refine th_met RX12 (by decide) rfl (Nat.le_of_ble_eq_true rfl) ?_
  intro p e s m below meth c hC hH hr hlocks hnm ls hl
  have hx := hC.1
  have hb := hC.2.1
  have hB : th_B G Γ Γ [(68, 0)] H0 H0 [] := ⟨hI, va_S.rf, th_F_rf⟩
  have hl : lv_has ls 6 [(0, .ref a0), (1, .int p1), (2, .int p2)] := hl
  have lp1 := ti_lo p1; have up1 := ti_hi p1
  have lp2 := ti_lo p2; have up2 := ti_hi p2
  refine lv_iload_n hx hb dX12_few_0 rfl (lv_at hl 1 rfl) ?_
  refine lv_iconst (v := 1) hx hb dX12_few_1 (by decide) ?_
  refine lv_bipush (v := 20) hx hb dX12_few_2 (by decide) ?_
  refine th_call (th_runS (As := [.int p1, .int 1, .int 20]) (rest := []) hC mf_X12_lies km_X12_18 st_X12_lies (c_X12_lies l G Γ H0 hB.1 hU p1 1 20) rfl rfl ⟨Nat.le_of_ble_eq_true rfl, Nat.le_of_ble_eq_true rfl⟩ rfl hl.1 rfl (Nat.le_of_ble_eq_true rfl) dX12_few_4 ⟨Nat.le_refl _, Nat.le_refl _⟩) hB.2.1 (fun v4 H4 locs hp hz hS => ?_)
  obtain ⟨x1, rfl, lx1, ux1, q4_0, q4_1, q4_2, rfl⟩ := hp
  have hB := th_B_s hB hS
  have w4_1 := tk_1
  have w4_2 := tk_20
  refine W.eq (g2 := F0 m 7 ls [.int x1]) rfl ?_
  refine tr_if_eq (tgt := 20) hx hb dX12_few_7 (by decide) (Eq.refl _) (fun c7 => ?_) (fun c7 => ?_)
  · refine lv_ldc2 (v := (-1)) hx hb hC.2.2.2.1 (hC.2.2.2.2.1 _ kw_1903) dX12_few_20 ?_
    exact th_lret hC hH hr hlocks hB.2.1 ⟨_, rfl, hB.1, hB.2.2, hR⟩ dX12_few_23
  · refine lv_iload_n hx hb dX12_few_10 rfl (lv_at hl 2 rfl) ?_
    refine lv_iconst (v := 0) hx hb dX12_few_11 (by decide) ?_
    refine lv_bipush (v := 99) hx hb dX12_few_12 (by decide) ?_
    refine th_call (th_runS (As := [.int p2, .int 0, .int 99]) (rest := []) hC mf_X12_lies km_X12_18 st_X12_lies (c_X12_lies l G Γ H0 hB.1 hU p2 0 99) rfl rfl ⟨Nat.le_of_ble_eq_true rfl, Nat.le_of_ble_eq_true rfl⟩ rfl hl.1 rfl (Nat.le_of_ble_eq_true rfl) dX12_few_14 ⟨Nat.le_refl _, Nat.le_refl _⟩) hB.2.1 (fun v14 H14 locs hp hz hS => ?_)
    obtain ⟨x2, rfl, lx2, ux2, q14_0, q14_1, q14_2, rfl⟩ := hp
    have hB := th_B_s hB hS
    have w14_1 := tk_0
    have w14_2 := tk_99
    refine W.eq (g2 := F0 m 17 ls [.int x2]) rfl ?_
    refine tr_if_ne (tgt := 24) hx hb dX12_few_17 (by decide) (Eq.refl _) (fun c17 => ?_) (fun c17 => ?_)
    · refine lv_iconst (v := 0) hx hb dX12_few_24 (by decide) ?_
      refine lv_istore_n (lv' := [(3, .int 0), (0, .ref a0), (1, .int p1), (2, .int p2)]) hx hb dX12_few_25 rfl hl (by decide) rfl (fun ls hl => ?_)
      have lp26 : ∀ (n26 : Nat) (H26 : Heap) (locs : List Loc) (ls : Array Slot) (j26_3 : Int32), th_B G Γ Γ [(68, 0)] H0 H26 locs → th_RC G Γ H26 → lv_has ls 6 [(0, .ref a0), (1, .int p1), (2, .int p2), (3, .int j26_3)] → 0 ≤ j26_3.toInt → j26_3.toInt ≤ 22 → (2147483648 : Int) - j26_3.toInt ≤ (n26 : Int) → W p l e ({ frames := 1, cells := 0, slots := 0, locals := 22 } : Room) s m ([.ref a0, .int p1, .int p2] : List Value).toArray below meth c H26 locs 0 0 (MQ below (th_Q (fun (v : Option Value) (H1 : Heap) => ∃ r : Int64, v = some (.long r) ∧ th_I G Γ H1 ∧ th_F G Γ [(68, 0)] H0 H1 ∧ th_RC G Γ H1) G) ([.ref a0, .int p1, .int p2] : List Value).toArray s 0 0 (fun q => G.2.2 ≤ q)) (F0 m 26 ls []) := by
        intro n26
        induction n26 with
        | zero => intro H26 locs ls j26_3 hB hR hl g26_0 g26_1 hm26; exact absurd hm26 (by have := ti_hi j26_3; omega)
        | succ n26 ih26 =>
          intro H26 locs ls j26_3 hB hR hl g26_0 g26_1 hm26
          have lj26_3 := ti_lo j26_3; have uj26_3 := ti_hi j26_3
          have hm26 : (2147483648 : Int) - j26_3.toInt ≤ (n26 : Int) + 1 := by omega
          refine lv_iload_n hx hb dX12_few_26 rfl (lv_at hl 3 rfl) ?_
          refine lv_bipush (v := 20) hx hb dX12_few_27 (by decide) ?_
          refine tr_icmp_gt (tgt := 55) hx hb dX12_few_29 (by decide) (Eq.refl _) tk_20 (fun c29 => ?_) (fun c29 => ?_)
          · refine lv_iconst (v := 0) hx hb dX12_few_55 (by decide) ?_
            refine lv_istore_n (lv' := [(3, .int 0), (0, .ref a0), (1, .int p1), (2, .int p2)]) hx hb dX12_few_56 rfl hl (by decide) rfl (fun ls hl => ?_)
            have lp57 : ∀ (n57 : Nat) (H57 : Heap) (locs : List Loc) (ls : Array Slot) (j57_3 : Int32), th_B G Γ Γ [(68, 0)] H0 H57 locs → th_RC G Γ H57 → lv_has ls 6 [(0, .ref a0), (1, .int p1), (2, .int p2), (3, .int j57_3)] → 0 ≤ j57_3.toInt → j57_3.toInt ≤ 100 → (2147483648 : Int) - j57_3.toInt ≤ (n57 : Int) → W p l e ({ frames := 1, cells := 0, slots := 0, locals := 22 } : Room) s m ([.ref a0, .int p1, .int p2] : List Value).toArray below meth c H57 locs 0 0 (MQ below (th_Q (fun (v : Option Value) (H1 : Heap) => ∃ r : Int64, v = some (.long r) ∧ th_I G Γ H1 ∧ th_F G Γ [(68, 0)] H0 H1 ∧ th_RC G Γ H1) G) ([.ref a0, .int p1, .int p2] : List Value).toArray s 0 0 (fun q => G.2.2 ≤ q)) (F0 m 57 ls []) := by
              intro n57
              induction n57 with
              | zero => intro H57 locs ls j57_3 hB hR hl g57_0 g57_1 hm57; exact absurd hm57 (by have := ti_hi j57_3; omega)
              | succ n57 ih57 =>
                intro H57 locs ls j57_3 hB hR hl g57_0 g57_1 hm57
                have lj57_3 := ti_lo j57_3; have uj57_3 := ti_hi j57_3
                have hm57 : (2147483648 : Int) - j57_3.toInt ≤ (n57 : Int) + 1 := by omega
                refine lv_iload_n hx hb dX12_few_57 rfl (lv_at hl 3 rfl) ?_
                refine lv_iload_n hx hb dX12_few_58 rfl (lv_at hl 2 rfl) ?_
                refine tr_icmp_ge (tgt := 146) hx hb dX12_few_59 (by decide) (Eq.refl _) (Eq.refl _) (fun c59 => ?_) (fun c59 => ?_)
                · refine lv_lconst (v := 0) hx hb dX12_few_146 rfl ?_
                  refine lv_lstore_n (lv' := [(3, .long 0), (0, .ref a0), (1, .int p1), (2, .int p2)]) hx hb dX12_few_147 rfl hl (by decide) rfl (fun ls hl => ?_)
                  refine lv_iconst (v := 0) hx hb dX12_few_148 (by decide) ?_
                  refine lv_istore (lv' := [(5, .int 0), (3, .long 0), (0, .ref a0), (1, .int p1), (2, .int p2)]) hx hb dX12_few_149 hl (by decide) rfl (fun ls hl => ?_)
                  have lp151 : ∀ (n151 : Nat) (locs : List Loc) (ls : Array Slot) (j151_3 : Int64) (j151_5 : Int32), th_B G Γ Γ [(68, 0)] H0 H57 locs → lv_has ls 6 [(0, .ref a0), (1, .int p1), (3, .long j151_3), (5, .int j151_5)] → 0 ≤ j151_5.toInt → j151_5.toInt ≤ 20 → (2147483648 : Int) - j151_5.toInt ≤ (n151 : Int) → W p l e ({ frames := 1, cells := 0, slots := 0, locals := 22 } : Room) s m ([.ref a0, .int p1, .int p2] : List Value).toArray below meth c H57 locs 0 0 (MQ below (th_Q (fun (v : Option Value) (H1 : Heap) => ∃ r : Int64, v = some (.long r) ∧ th_I G Γ H1 ∧ th_F G Γ [(68, 0)] H0 H1 ∧ th_RC G Γ H1) G) ([.ref a0, .int p1, .int p2] : List Value).toArray s 0 0 (fun q => G.2.2 ≤ q)) (F0 m 151 ls []) := by
                    intro n151
                    induction n151 with
                    | zero => intro locs ls j151_3 j151_5 hB hl g151_0 g151_1 hm151; exact absurd hm151 (by have := ti_hi j151_5; omega)
                    | succ n151 ih151 =>
                      intro locs ls j151_3 j151_5 hB hl g151_0 g151_1 hm151
                      have lj151_5 := ti_lo j151_5; have uj151_5 := ti_hi j151_5
                      have hm151 : (2147483648 : Int) - j151_5.toInt ≤ (n151 : Int) + 1 := by omega
                      refine lv_iload hx hb dX12_few_151 (lv_at hl 3 rfl) ?_
                      refine lv_iload_n hx hb dX12_few_153 rfl (lv_at hl 1 rfl) ?_
                      refine tr_icmp_ge (tgt := 173) hx hb dX12_few_154 (by decide) (Eq.refl _) (Eq.refl _) (fun c154 => ?_) (fun c154 => ?_)
                      · refine lv_lload_n hx hb dX12_few_173 rfl (lv_at hl 2 rfl) ?_
                        exact th_lret hC hH hr hlocks hB.2.1 ⟨_, rfl, hB.1, hB.2.2, hR⟩ dX12_few_174
                      · refine lv_lload_n hx hb dX12_few_157 rfl (lv_at hl 2 rfl) ?_
                        refine lv_aload_n hx hb dX12_few_158 rfl (lv_at hl 0 rfl) ?_
                        refine th_getO (j := 46) (r2 := 68) hC cf_X12 hB.1 h0 ro_46 rfl rfl kf_X12_93 dX12_few_159 (fun b3 mb3 hb3 => ?_)
                        have sb3 := (th_F_o hB.2.2 h0 ro_46 (j := 46) (by decide) (by decide)).symm.trans mb3
                        refine lv_iload hx hb dX12_few_162 (lv_at hl 3 rfl) ?_
                        refine th_laldF hC hB.1 hb3 ro_68 rfl (Eq.refl _) (by omega) (by omega) rfl dX12_few_164 (fun y4 my4 ly4 uy4 => ?_)
                        refine lv_ladd hx hb dX12_few_165 ?_
                        refine lv_topl (fun y5 ey5 => ?_)
                        refine lv_lstore_n (lv' := [(3, .long y5), (0, .ref a0), (1, .int p1), (5, .int j151_5)]) hx hb dX12_few_166 rfl hl (by decide) rfl (fun ls hl => ?_)
                        refine tr_iinc (fun x6 => [(5, .int x6), (3, .long y5), (0, .ref a0), (1, .int p1)]) hx hb dX12_few_167 hl (k := 3) rfl (Eq.refl _) tk_1 (by omega) (by omega) (by decide) (fun _ => rfl) (fun x6 ls ex6 hl => ?_)
                        refine lv_goto (tgt := 151) hx hb dX12_few_170 (by decide) ?_
                        exact ih151 locs ls y5 x6 hB (lv_sub hl [2, 3, 1, 0] rfl) (by omega) (by omega) (by omega)
                  exact lp151 ((2147483648 : Int) - (0)).toNat locs ls 0 0 hB (lv_sub hl [2, 3, 1, 0] rfl) (by decide) (by decide) (by have w0 := tk_0; omega)
                · refine lv_iload_n hx hb dX12_few_62 rfl (lv_at hl 1 rfl) ?_
                  refine lv_iconst (v := 1) hx hb dX12_few_63 (by decide) ?_
                  refine tr_isub hx hb dX12_few_64 (Eq.refl _) tk_1 (by omega) (by omega) (fun x7 ex7 => ?_)
                  refine lv_istore (lv' := [(4, .int x7), (0, .ref a0), (1, .int p1), (2, .int p2), (3, .int j57_3)]) hx hb dX12_few_65 hl (by decide) rfl (fun ls hl => ?_)
                  have lp67 : ∀ (n67 : Nat) (H67 : Heap) (locs : List Loc) (ls : Array Slot) (j67_4 : Int32), th_B G Γ Γ [(68, 0)] H0 H67 locs → th_RC G Γ H67 → lv_has ls 6 [(0, .ref a0), (1, .int p1), (2, .int p2), (3, .int j57_3), (4, .int j67_4)] → (-1) ≤ j67_4.toInt → j67_4.toInt ≤ 19 → j67_4.toInt + (2147483649 : Int) ≤ (n67 : Int) → W p l e ({ frames := 1, cells := 0, slots := 0, locals := 22 } : Room) s m ([.ref a0, .int p1, .int p2] : List Value).toArray below meth c H67 locs 0 0 (MQ below (th_Q (fun (v : Option Value) (H1 : Heap) => ∃ r : Int64, v = some (.long r) ∧ th_I G Γ H1 ∧ th_F G Γ [(68, 0)] H0 H1 ∧ th_RC G Γ H1) G) ([.ref a0, .int p1, .int p2] : List Value).toArray s 0 0 (fun q => G.2.2 ≤ q)) (F0 m 67 ls []) := by
                    intro n67
                    induction n67 with
                    | zero => intro H67 locs ls j67_4 hB hR hl g67_0 g67_1 hm67; exact absurd hm67 (by have := ti_lo j67_4; omega)
                    | succ n67 ih67 =>
                      intro H67 locs ls j67_4 hB hR hl g67_0 g67_1 hm67
                      have lj67_4 := ti_lo j67_4; have uj67_4 := ti_hi j67_4
                      have hm67 : j67_4.toInt + (2147483649 : Int) ≤ (n67 : Int) + 1 := by omega
                      refine lv_iload hx hb dX12_few_67 (lv_at hl 4 rfl) ?_
                      refine tr_if_lt (tgt := 140) hx hb dX12_few_69 (by decide) (Eq.refl _) (fun c69 => ?_) (fun c69 => ?_)
                      · refine tr_iinc (fun x8 => [(3, .int x8), (0, .ref a0), (1, .int p1), (2, .int p2), (4, .int j67_4)]) hx hb dX12_few_140 hl (k := 3) rfl (Eq.refl _) tk_1 (by omega) (by omega) (by decide) (fun _ => rfl) (fun x8 ls ex8 hl => ?_)
                        refine lv_goto (tgt := 57) hx hb dX12_few_143 (by decide) ?_
                        exact ih57 H67 locs ls x8 hB hR (lv_sub hl [1, 2, 3, 0] rfl) (by omega) (by omega) (by omega)
                      · refine lv_aload_n hx hb dX12_few_72 rfl (lv_at hl 0 rfl) ?_
                        refine th_getO (j := 46) (r2 := 68) hC cf_X12 hB.1 h0 ro_46 rfl rfl kf_X12_93 dX12_few_73 (fun b9 mb9 hb9 => ?_)
                        have sb9 := (th_F_o hB.2.2 h0 ro_46 (j := 46) (by decide) (by decide)).symm.trans mb9
                        refine lv_iload hx hb dX12_few_76 (lv_at hl 4 rfl) ?_
                        refine lv_iconst (v := 1) hx hb dX12_few_78 (by decide) ?_
                        refine tr_iadd hx hb dX12_few_79 (Eq.refl _) tk_1 (by omega) (by omega) (fun x10 ex10 => ?_)
                        refine lv_dup2_11 hx hb dX12_few_80 rfl rfl ?_
                        refine th_laldF hC hB.1 hb9 ro_68 rfl (Eq.refl _) (by omega) (by omega) rfl dX12_few_81 (fun y11 my11 ly11 uy11 => ?_)
                        refine lv_aload_n hx hb dX12_few_82 rfl (lv_at hl 0 rfl) ?_
                        refine th_getK hC cf_X12 hB.1 h0 ro_46 rfl (j := 46) (by decide) mb9 kf_X12_93 dX12_few_83 ?_
                        refine lv_iload hx hb dX12_few_86 (lv_at hl 4 rfl) ?_
                        refine th_laldF hC hB.1 hb9 ro_68 rfl (Eq.refl _) (by omega) (by omega) rfl dX12_few_88 (fun y12 my12 ly12 uy12 => ?_)
                        refine lv_aload_n hx hb dX12_few_89 rfl (lv_at hl 0 rfl) ?_
                        refine th_getO (j := 2) (r2 := 48) hC cf_X12 hB.1 h0 ro_46 rfl rfl kf_X12_28 dX12_few_90 (fun b13 mb13 hb13 => ?_)
                        have sb13 := (th_F_o hB.2.2 h0 ro_46 (j := 2) (by decide) (by decide)).symm.trans mb13
                        refine lv_bipush (v := 65) hx hb dX12_few_93 (by decide) ?_
                        refine th_ialdF hC hB.1 hb13 ro_48 rfl tk_65 (by omega) (by omega) (ek_b (by omega) (by omega)) dX12_few_95 (fun x14 mx14 lx14 ux14 => ?_)
                        refine lv_i2l hx hb dX12_few_96 rfl ?_
                        refine lv_topl (fun y15 ey15 => ?_)
                        refine lv_lmul hx hb dX12_few_97 ?_
                        refine lv_topl (fun y16 ey16 => ?_)
                        refine lv_ldc2 (v := 10) hx hb hC.2.2.2.1 (hC.2.2.2.2.1 _ kw_1905) dX12_few_98 ?_
                        refine lv_ldiv hx hb dX12_few_101 (by decide) ?_
                        refine lv_topl (fun y17 ey17 => ?_)
                        refine lv_ladd hx hb dX12_few_102 ?_
                        refine lv_topl (fun y18 ey18 => ?_)
                        refine th_lastF hC hB hb9 (Or.inl hb9) ro_68 rfl (by decide) (Eq.refl _) (by omega) (by omega) th_sLa dX12_few_103 (fun H103 locs hB hf103 hst103 => ?_)
                        have hf := hf103
                        have mm19 := (th_F_o hf h0 ro_46 (j := 46) (by decide) (by decide)).trans mb9
                        have mm20 := (th_F_o hf h0 ro_46 (j := 2) (by decide) (by decide)).trans mb13
                        have hR := th_RC_F hB.1 hR hf (th_T_s hb9 ro_68 hst103) (by decide)
                        refine lv_aload_n hx hb dX12_few_104 rfl (lv_at hl 0 rfl) ?_
                        refine th_getK hC cf_X12 hB.1 h0 ro_46 rfl (j := 46) (by decide) mm19 kf_X12_93 dX12_few_105 ?_
                        refine lv_iload hx hb dX12_few_108 (lv_at hl 4 rfl) ?_
                        refine lv_aload_n hx hb dX12_few_110 rfl (lv_at hl 0 rfl) ?_
                        refine th_getK hC cf_X12 hB.1 h0 ro_46 rfl (j := 46) (by decide) mm19 kf_X12_93 dX12_few_111 ?_
                        refine lv_iload hx hb dX12_few_114 (lv_at hl 4 rfl) ?_
                        refine th_laldF hC hB.1 hb9 ro_68 rfl (Eq.refl _) (by omega) (by omega) rfl dX12_few_116 (fun y21 my21 ly21 uy21 => ?_)
                        refine lv_bipush (v := 10) hx hb dX12_few_117 (by decide) ?_
                        refine lv_aload_n hx hb dX12_few_119 rfl (lv_at hl 0 rfl) ?_
                        refine th_getK hC cf_X12 hB.1 h0 ro_46 rfl (j := 2) (by decide) mm20 kf_X12_28 dX12_few_120 ?_
                        refine lv_bipush (v := 65) hx hb dX12_few_123 (by decide) ?_
                        refine th_ialdF hC hB.1 hb13 ro_48 rfl tk_65 (by omega) (by omega) (ek_b (by omega) (by omega)) dX12_few_125 (fun x22 mx22 lx22 ux22 => ?_)
                        refine lv_isub hx hb dX12_few_126 ?_
                        refine lv_topi (fun x23 ex23 => ?_)
                        have lx23 := ti_lo x23; have ux23 := ti_hi x23
                        refine lv_i2l hx hb dX12_few_127 rfl ?_
                        refine lv_topl (fun y24 ey24 => ?_)
                        refine lv_lmul hx hb dX12_few_128 ?_
                        refine lv_topl (fun y25 ey25 => ?_)
                        refine lv_ldc2 (v := 10) hx hb hC.2.2.2.1 (hC.2.2.2.2.1 _ kw_1905) dX12_few_129 ?_
                        refine lv_ldiv hx hb dX12_few_132 (by decide) ?_
                        refine lv_topl (fun y26 ey26 => ?_)
                        refine th_lastF hC hB hb9 (Or.inl hb9) ro_68 rfl (by decide) (Eq.refl _) (by omega) (by omega) th_sLa dX12_few_133 (fun H133 locs hB hf133 hst133 => ?_)
                        have hf := hf133
                        have mm27 := (th_F_o hf h0 ro_46 (j := 46) (by decide) (by decide)).trans mm19
                        have mm28 := (th_F_o hf h0 ro_46 (j := 2) (by decide) (by decide)).trans mm20
                        have hR := th_RC_F hB.1 hR hf (th_T_s hb9 ro_68 hst133) (by decide)
                        refine tr_iinc (fun x29 => [(4, .int x29), (0, .ref a0), (1, .int p1), (2, .int p2), (3, .int j57_3)]) hx hb dX12_few_134 hl (k := 4) rfl (Eq.refl _) tk_m1 (by omega) (by omega) (by decide) (fun _ => rfl) (fun x29 ls ex29 hl => ?_)
                        refine lv_goto (tgt := 67) hx hb dX12_few_137 (by decide) ?_
                        exact ih67 H133 locs ls x29 hB hR (lv_sub hl [1, 2, 3, 4, 0] rfl) (by omega) (by omega) (by omega)
                  exact lp67 ((x7.toInt) + (2147483649 : Int)).toNat H57 locs ls x7 hB hR (lv_sub hl [1, 2, 3, 4, 0] rfl) (by omega) (by omega) (by omega)
            exact lp57 ((2147483648 : Int) - (0)).toNat H26 locs ls 0 hB hR (lv_sub hl [1, 2, 3, 0] rfl) (by decide) (by decide) (by have w0 := tk_0; omega)
          · refine lv_aload_n hx hb dX12_few_32 rfl (lv_at hl 0 rfl) ?_
            refine th_getO (j := 46) (r2 := 68) hC cf_X12 hB.1 h0 ro_46 rfl rfl kf_X12_93 dX12_few_33 (fun b30 mb30 hb30 => ?_)
            have sb30 := (th_F_o hB.2.2 h0 ro_46 (j := 46) (by decide) (by decide)).symm.trans mb30
            refine lv_iload_n hx hb dX12_few_36 rfl (lv_at hl 3 rfl) ?_
            refine lv_iload_n hx hb dX12_few_37 rfl (lv_at hl 3 rfl) ?_
            have jn48 : ∀ (locs : List Loc) (ls : Array Slot) (s48_2 : Int64), th_B G Γ Γ [(68, 0)] H0 H26 locs → lv_has ls 6 [(0, .ref a0), (1, .int p1), (2, .int p2), (3, .int j26_3)] → W p l e ({ frames := 1, cells := 0, slots := 0, locals := 22 } : Room) s m ([.ref a0, .int p1, .int p2] : List Value).toArray below meth c H26 locs 0 0 (MQ below (th_Q (fun (v : Option Value) (H1 : Heap) => ∃ r : Int64, v = some (.long r) ∧ th_I G Γ H1 ∧ th_F G Γ [(68, 0)] H0 H1 ∧ th_RC G Γ H1) G) ([.ref a0, .int p1, .int p2] : List Value).toArray s 0 0 (fun q => G.2.2 ≤ q)) (F0 m 48 ls [.long s48_2, .int j26_3, .ref b30]) := by
              intro locs ls s48_2 hB hl
              refine th_lastF hC hB hb30 (Or.inl hb30) ro_68 rfl (by decide) (Eq.refl _) (by omega) (by omega) th_sLa dX12_few_48 (fun H48 locs hB hf48 hst48 => ?_)
              have hf := hf48
              have mm31 := (th_F_o hf h0 ro_46 (j := 46) (by decide) (by decide)).trans mb30
              have hR := th_RC_F hB.1 hR hf (th_T_s hb30 ro_68 hst48) (by decide)
              refine tr_iinc (fun x32 => [(3, .int x32), (0, .ref a0), (1, .int p1), (2, .int p2)]) hx hb dX12_few_49 hl (k := 3) rfl (Eq.refl _) tk_1 (by omega) (by omega) (by decide) (fun _ => rfl) (fun x32 ls ex32 hl => ?_)
              refine lv_goto (tgt := 26) hx hb dX12_few_52 (by decide) ?_
              exact ih26 H48 locs ls x32 hB hR (lv_sub hl [1, 2, 3, 0] rfl) (by omega) (by omega) (by omega)
            refine tr_if_ne (tgt := 47) hx hb dX12_few_38 (by decide) (Eq.refl _) (fun c38 => ?_) (fun c38 => ?_)
            · refine lv_lconst (v := 0) hx hb dX12_few_47 rfl ?_
              exact jn48 locs ls 0 hB (lv_sub hl [0, 1, 2, 3] rfl)
            · refine lv_ldc2 (v := 1000000000000) hx hb hC.2.2.2.1 (hC.2.2.2.2.1 _ kw_1904) dX12_few_41 ?_
              refine lv_goto (tgt := 48) hx hb dX12_few_44 (by decide) ?_
              exact jn48 locs ls 1000000000000 hB (lv_sub hl [0, 1, 2, 3] rfl)
      exact lp26 ((2147483648 : Int) - (0)).toNat H0 locs ls 0 hB hR (lv_sub hl [1, 2, 3, 0] rfl) (by decide) (by decide) (by have w0 := tk_0; omega)
    · refine lv_ldc2 (v := (-1)) hx hb hC.2.2.2.1 (hC.2.2.2.2.1 _ kw_1903) dX12_few_20 ?_
      exact th_lret hC hH hr hlocks hB.2.1 ⟨_, rfl, hB.1, hB.2.2, hR⟩ dX12_few_23

set_option maxHeartbeats 4000000 in
set_option maxRecDepth 100000 in
theorem c_X12_draws (l : Launch) (G : th_G) (Γ : th_Ga) (H0 : Heap) (hI : th_I G Γ H0) (hR : th_RC G Γ H0) (hU : dv_U Γ) (a0 : Nat) (h0 : Γ a0 = (46, 0)) (p1 : Int32) (f1 : 1 ≤ p1.toInt) (g1 : p1.toInt ≤ 12) : Met l yX12_draws (.code yX12_draws cX12_draws 2 (some FieldType.int) :: th_tb) ({ frames := 0, cells := 0, slots := 0, locals := 0 } : Room) (th_P [.ref a0, .int p1] G H0) (th_Q (fun (v : Option Value) (H1 : Heap) => ∃ r : Int32, v = some (.int r) ∧ 0 ≤ r.toInt ∧ r.toInt ≤ 11 ∧ (r.toInt < p1.toInt) ∧ th_I G Γ H1 ∧ th_F G Γ [(46, 56)] H0 H1 ∧ th_RC G Γ H1 ∧ (f_X12_draws (dv G Γ H0) (a0 : Int) p1.toInt = (dv G Γ H1, r.toInt))) G) 0 0 (fun q => G.2.2 ≤ q) := by
  refine th_met RX12 (by decide) rfl (Nat.le_of_ble_eq_true rfl) ?_
  intro p e s m below meth c hC hH hr hlocks hnm ls hl
  have hx := hC.1
  have hb := hC.2.1
  have hB : th_B G Γ Γ [(46, 56)] H0 H0 [] := ⟨hI, va_S.rf, th_F_rf⟩
  have hl : lv_has ls 2 [(0, .ref a0), (1, .int p1)] := hl
  have lp1 := ti_lo p1; have up1 := ti_hi p1
  obtain ⟨F, hF0⟩ : ∃ F, F = f_X12_draws (dv G Γ H0) ((a0 : Int)) (p1.toInt) := ⟨_, rfl⟩
  have hF := hF0.trans (f_X12_draws.eq_1 (dv G Γ H0) ((a0 : Int)) (p1.toInt))
  refine lv_aload_n hx hb dX12_draws_0 rfl (lv_at hl 0 rfl) ?_
  refine lv_ldc2 (v := 1103) hx hb hC.2.2.2.1 (hC.2.2.2.2.1 _ kw_1946) dX12_draws_1 ?_
  refine lv_aload_n hx hb dX12_draws_4 rfl (lv_at hl 0 rfl) ?_
  refine th_getI (j := 56) hC cf_X12 hB.1 h0 ro_46 rfl rfl kf_X12_516 dX12_draws_5 (fun x1 mx1 lx1 ux1 => ?_)
  replace hF := hF.trans (dv_bn (dv_getI h0 ro_46 (j := 56) rfl mx1 (by decide)))
  refine lv_i2l hx hb dX12_draws_8 rfl ?_
  refine lv_topl (fun y2 ey2 => ?_)
  replace hF := hF.trans (dv_bn (dv_i2l_e (Eq.refl _) ey2))
  refine lv_lmul hx hb dX12_draws_9 ?_
  refine lv_topl (fun y3 ey3 => ?_)
  replace hF := hF.trans (dv_bn (dv_lmul_e (rfl : (1103 : Int64).toInt = 1103) (Eq.refl (y2.toInt)) ey3))
  refine lv_ldc2 (v := 12345) hx hb hC.2.2.2.1 (hC.2.2.2.2.1 _ kw_1947) dX12_draws_10 ?_
  refine lv_ladd hx hb dX12_draws_13 ?_
  refine lv_topl (fun y4 ey4 => ?_)
  replace hF := hF.trans (dv_bn (dv_ladd_e (Eq.refl (y3.toInt)) (rfl : (12345 : Int64).toInt = 12345) ey4))
  refine lv_ldc2 (v := 1000003) hx hb hC.2.2.2.1 (hC.2.2.2.2.1 _ kw_1948) dX12_draws_14 ?_
  refine lv_lrem hx hb dX12_draws_17 (by decide) ?_
  refine lv_topl (fun y5 ey5 => ?_)
  replace hF := hF.trans (dv_bn (dv_lrem_e (Eq.refl (y4.toInt)) (rfl : (1000003 : Int64).toInt = 1000003) ey5))
  refine lv_l2i hx hb dX12_draws_18 rfl ?_
  refine lv_topi (fun x6 ex6 => ?_)
  have lx6 := ti_lo x6; have ux6 := ti_hi x6
  replace hF := hF.trans (dv_bn (dv_l2i_e (Eq.refl (y5.toInt)) ex6))
  have f18 := mo_dr (show 0 ≤ x1.toInt by omega) (show x1.toInt ≤ 1000002 by omega) ey2 ey3 ey4 ey5 ex6
  refine th_put hC cf_X12 hB h0 (Or.inl h0) ro_46 rfl (j := 56) rfl (th_sI (by omega) (by omega)) (by decide) rfl rfl rfl kf_X12_516 dX12_draws_19 (fun H19 locs hB hf hst19 => ?_)
  have hR := th_RC_F hB.1 hR hf (th_T_s h0 ro_46 hst19) (by decide)
  replace hF := hF.trans (dv_bn (dv_putI hB.1 h0 ro_46 (j := 56) rfl (th_apart hC cf_X12) hst19 (Eq.refl _) (by decide)))
  have mm7 := hst19.2.1
  refine lv_aload_n hx hb dX12_draws_22 rfl (lv_at hl 0 rfl) ?_
  refine th_getK hC cf_X12 hB.1 h0 ro_46 rfl (j := 56) (by decide) mm7 kf_X12_516 dX12_draws_23 ?_
  replace hF := hF.trans (dv_bn (dv_getI h0 ro_46 (j := 56) rfl mm7 (by decide)))
  refine lv_iload_n hx hb dX12_draws_26 rfl (lv_at hl 1 rfl) ?_
  refine tr_irem hx hb dX12_draws_27 (Eq.refl _) (Eq.refl _) (by omega) (by omega) (fun x8 ex8 => ?_)
  have fx8 := ti_remb (a := x6.toInt) (b := p1.toInt) (by omega) (by omega)
  rw [← ex8] at fx8
  replace hF := hF.trans (dv_bn (ex8.symm))
  exact th_iret hC hH hr hlocks rfl hB.2.1 ⟨_, rfl, by omega, by omega, by intros; omega, hB.1, hB.2.2, hR, (hF0.symm.trans hF)⟩ dX12_draws_28

set_option maxHeartbeats 4000000 in
set_option maxRecDepth 100000 in
theorem c_X12_turnsSquare (l : Launch) (G : th_G) (Γ : th_Ga) (H0 : Heap) (hI : th_I G Γ H0) (hR : th_RC G Γ H0) (hU : dv_U Γ) (a0 : Nat) (h0 : Γ a0 = (46, 0)) (p1 : Int32) (f1 : 0 ≤ p1.toInt) (g1 : p1.toInt ≤ 12) (p2 : Int32) (f2 : 0 ≤ p2.toInt) (g2 : p2.toInt ≤ 11) (p3 : Int32) (f3 : 0 ≤ p3.toInt) (g3 : p3.toInt ≤ 11) (k1 : p3.toInt + p1.toInt ≤ 12) : Met l yX12_turnsSquare (.code yX12_turnsSquare cX12_turnsSquare 5 (none) :: th_tb) ({ frames := 0, cells := 0, slots := 0, locals := 0 } : Room) (th_P [.ref a0, .int p1, .int p2, .int p3] G H0) (th_Q (fun (v : Option Value) (H1 : Heap) => v = none ∧ th_I G Γ H1 ∧ th_F G Γ [(59, 0)] H0 H1 ∧ th_RC G Γ H1 ∧ (∀ z : Int, mo_x G H1 a0 29 z = if p3.toInt ≤ z ∧ z < p3.toInt + p1.toInt then mo_x G H0 a0 29 z ^^^ mo_mk p1 p2 else mo_x G H0 a0 29 z) ∧ (f_X12_turnsSquare (dv G Γ H0) (a0 : Int) p1.toInt p2.toInt p3.toInt = (dv G Γ H1, 0))) G) 0 0 (fun q => G.2.2 ≤ q) := by
  refine th_met RX12 (by decide) rfl (Nat.le_of_ble_eq_true rfl) ?_
  intro p e s m below meth c hC hH hr hlocks hnm ls hl
  have hx := hC.1
  have hb := hC.2.1
  have hB : th_B G Γ Γ [(59, 0)] H0 H0 [] := ⟨hI, va_S.rf, th_F_rf⟩
  have hl : lv_has ls 5 [(0, .ref a0), (1, .int p1), (2, .int p2), (3, .int p3)] := hl
  have lp1 := ti_lo p1; have up1 := ti_hi p1
  have lp2 := ti_lo p2; have up2 := ti_hi p2
  have lp3 := ti_lo p3; have up3 := ti_hi p3
  obtain ⟨F, hF0⟩ : ∃ F, F = f_X12_turnsSquare (dv G Γ H0) ((a0 : Int)) (p1.toInt) (p2.toInt) (p3.toInt) := ⟨_, rfl⟩
  have hF := hF0.trans (f_X12_turnsSquare.eq_1 (dv G Γ H0) ((a0 : Int)) (p1.toInt) (p2.toInt) (p3.toInt))
  refine lv_iload_n hx hb dX12_turnsSquare_0 rfl (lv_at hl 3 rfl) ?_
  refine lv_istore (lv' := [(4, .int p3), (0, .ref a0), (1, .int p1), (2, .int p2), (3, .int p3)]) hx hb dX12_turnsSquare_1 hl (by decide) rfl (fun ls hl => ?_)
  have lp3 : ∀ (n3 : Nat) (H3 : Heap) (locs : List Loc) (ls : Array Slot) (j3_4 : Int32), th_B G Γ Γ [(59, 0)] H0 H3 locs → th_RC G Γ H3 → lv_has ls 5 [(0, .ref a0), (1, .int p1), (2, .int p2), (3, .int p3), (4, .int j3_4)] → F = dv_lp f_X12_turnsSquare_3b (dv G Γ H3, (a0 : Int), p1.toInt, p2.toInt, p3.toInt, j3_4.toInt) → 0 ≤ j3_4.toInt → j3_4.toInt ≤ 12 → p3.toInt ≤ j3_4.toInt → j3_4.toInt ≤ p3.toInt + p1.toInt → (∀ z : Int, mo_x G H3 a0 29 z = if p3.toInt ≤ z ∧ z < j3_4.toInt then mo_x G H0 a0 29 z ^^^ mo_mk p1 p2 else mo_x G H0 a0 29 z) → (2147483648 : Int) - j3_4.toInt ≤ (n3 : Int) → W p l e ({ frames := 0, cells := 0, slots := 0, locals := 0 } : Room) s m ([.ref a0, .int p1, .int p2, .int p3] : List Value).toArray below meth c H3 locs 0 0 (MQ below (th_Q (fun (v : Option Value) (H1 : Heap) => v = none ∧ th_I G Γ H1 ∧ th_F G Γ [(59, 0)] H0 H1 ∧ th_RC G Γ H1 ∧ (∀ z : Int, mo_x G H1 a0 29 z = if p3.toInt ≤ z ∧ z < p3.toInt + p1.toInt then mo_x G H0 a0 29 z ^^^ mo_mk p1 p2 else mo_x G H0 a0 29 z) ∧ (f_X12_turnsSquare (dv G Γ H0) (a0 : Int) p1.toInt p2.toInt p3.toInt = (dv G Γ H1, 0))) G) ([.ref a0, .int p1, .int p2, .int p3] : List Value).toArray s 0 0 (fun q => G.2.2 ≤ q)) (F0 m 3 ls []) := by
    intro n3
    induction n3 with
    | zero => intro H3 locs ls j3_4 hB hR hl hF g3_0 g3_1 g3_2 g3_3 g3_4 hm3; exact absurd hm3 (by have := ti_hi j3_4; omega)
    | succ n3 ih3 =>
      intro H3 locs ls j3_4 hB hR hl hF g3_0 g3_1 g3_2 g3_3 g3_4 hm3
      have lj3_4 := ti_lo j3_4; have uj3_4 := ti_hi j3_4
      have hm3 : (2147483648 : Int) - j3_4.toInt ≤ (n3 : Int) + 1 := by omega
      replace hF := hF.trans (dv_lp_eq)
      replace hF := hF.trans (congrArg (dv_k f_X12_turnsSquare_3b) (f_X12_turnsSquare_3c.eq_1 (dv G Γ H3) ((a0 : Int)) (p1.toInt) (p2.toInt) (p3.toInt) (j3_4.toInt)))
      refine lv_iload hx hb dX12_turnsSquare_3 (lv_at hl 4 rfl) ?_
      refine lv_iload_n hx hb dX12_turnsSquare_5 rfl (lv_at hl 3 rfl) ?_
      refine lv_iload_n hx hb dX12_turnsSquare_6 rfl (lv_at hl 1 rfl) ?_
      refine tr_iadd hx hb dX12_turnsSquare_7 (Eq.refl _) (Eq.refl _) (by omega) (by omega) (fun x1 ex1 => ?_)
      replace hF := hF.trans (congrArg (dv_k f_X12_turnsSquare_3b) (dv_bn (ex1.symm)))
      refine tr_icmp_ge (tgt := 34) hx hb dX12_turnsSquare_8 (by decide) (Eq.refl _) (Eq.refl _) (fun c8 => ?_) (fun c8 => ?_)
      · replace hF := hF.trans (congrArg (dv_k f_X12_turnsSquare_3b) (if_pos c8))
        replace hF := hF.trans (dv_kr)
        exact th_vret hC hH hr hlocks hB.2.1 ⟨rfl, hB.1, hB.2.2, hR, fun z => by rw [show p3.toInt + p1.toInt = j3_4.toInt by omega]; exact g3_4 z, (hF0.symm.trans hF)⟩ dX12_turnsSquare_34
      · replace hF := hF.trans (congrArg (dv_k f_X12_turnsSquare_3b) (if_neg (Int.not_le.mpr c8)))
        refine lv_aload_n hx hb dX12_turnsSquare_11 rfl (lv_at hl 0 rfl) ?_
        refine th_getO (j := 29) (r2 := 59) hC cf_X12 hB.1 h0 ro_46 rfl rfl kf_X12_66 dX12_turnsSquare_12 (fun b2 mb2 hb2 => ?_)
        have sb2 := (th_F_o hB.2.2 h0 ro_46 (j := 29) (by decide) (by decide)).symm.trans mb2
        refine lv_iload hx hb dX12_turnsSquare_15 (lv_at hl 4 rfl) ?_
        refine lv_dup2_11 hx hb dX12_turnsSquare_17 rfl rfl ?_
        refine th_ialdF hC hB.1 hb2 ro_59 rfl (Eq.refl _) (by omega) (by omega) rfl dX12_turnsSquare_18 (fun x3 mx3 lx3 ux3 => ?_)
        replace hF := hF.trans (congrArg (dv_k f_X12_turnsSquare_3b) (dv_bn (dv_aldI hB.1 hU hb2 ow_59 (z := j3_4.toInt) mx3 (by omega))))
        have vgx3 : mo_x G H3 a0 29 j3_4.toInt = x3 := by rw [show (j3_4.toInt : Int) = j3_4.toInt by omega]; exact mo_xat mb2 mx3 (by omega)
        refine lv_iconst (v := 1) hx hb dX12_turnsSquare_19 (by decide) ?_
        refine lv_iload_n hx hb dX12_turnsSquare_20 rfl (lv_at hl 1 rfl) ?_
        refine lv_ishl hx hb dX12_turnsSquare_21 ?_
        refine lv_topi (fun x4 ex4 => ?_)
        have lx4 := ti_lo x4; have ux4 := ti_hi x4
        replace hF := hF.trans (congrArg (dv_k f_X12_turnsSquare_3b) (dv_bn (dv_shl_e tk_1 (Eq.refl _) ex4)))
        refine lv_iconst (v := 1) hx hb dX12_turnsSquare_22 (by decide) ?_
        refine lv_isub hx hb dX12_turnsSquare_23 ?_
        refine lv_topi (fun x5 ex5 => ?_)
        have lx5 := ti_lo x5; have ux5 := ti_hi x5
        replace hF := hF.trans (congrArg (dv_k f_X12_turnsSquare_3b) (dv_bn (dv_sub_e (Eq.refl _) tk_1 ex5)))
        refine lv_iload_n hx hb dX12_turnsSquare_24 rfl (lv_at hl 2 rfl) ?_
        refine lv_ishl hx hb dX12_turnsSquare_25 ?_
        refine lv_topi (fun x6 ex6 => ?_)
        have lx6 := ti_lo x6; have ux6 := ti_hi x6
        replace hF := hF.trans (congrArg (dv_k f_X12_turnsSquare_3b) (dv_bn (dv_shl_e (Eq.refl _) (Eq.refl _) ex6)))
        refine lv_ixor hx hb dX12_turnsSquare_26 ?_
        refine lv_topi (fun x7 ex7 => ?_)
        have lx7 := ti_lo x7; have ux7 := ti_hi x7
        replace hF := hF.trans (congrArg (dv_k f_X12_turnsSquare_3b) (dv_bn (dv_xor_e (Eq.refl _) (Eq.refl _) ex7)))
        have hIo := hB.1
        refine th_iastF hC hB hb2 (Or.inl hb2) ro_59 rfl (by decide) (Eq.refl _) (by omega) (by omega) th_sIa dX12_turnsSquare_27 (fun H27 locs hB hf27 hst27 => ?_)
        have hf := hf27
        have mm8 := (th_F_o hf h0 ro_46 (j := 29) (by decide) (by decide)).trans mb2
        have hR := th_RC_F hB.1 hR hf (th_T_s hb2 ro_59 hst27) (by decide)
        replace hF := hF.trans (congrArg (dv_k f_X12_turnsSquare_3b) (dv_bn (dv_stoI hIo hB.1 hU hb2 ow_59 (i := j3_4.toInt) hst27 (Eq.refl _) (by omega))))
        have vs27 : mo_x G H27 a0 29 = mo_u (mo_x G H3 a0 29) j3_4.toInt x7 := by rw [show (j3_4.toInt : Int) = j3_4.toInt by omega]; exact mo_x_st h0 hb2 (by decide) mb2 hst27 (by omega)
        refine tr_iinc (fun x9 => [(4, .int x9), (0, .ref a0), (1, .int p1), (2, .int p2), (3, .int p3)]) hx hb dX12_turnsSquare_28 hl (k := 4) rfl (Eq.refl _) tk_1 (by omega) (by omega) (by decide) (fun _ => rfl) (fun x9 ls ex9 hl => ?_)
        replace hF := hF.trans (congrArg (dv_k f_X12_turnsSquare_3b) (dv_bn (ex9.symm)))
        refine lv_goto (tgt := 3) hx hb dX12_turnsSquare_31 (by decide) ?_
        replace hF := hF.trans (dv_kl)
        exact ih3 H27 locs ls x9 hB hR (lv_sub hl [1, 2, 3, 4, 0] rfl) hF (by omega) (by omega) (by omega) (by omega) (fun z => by rw [vs27]; by_cases q9 : z = j3_4.toInt; rw [mo_us q9, if_pos (by omega), ex7, ← vgx3, g3_4, if_neg (by omega), mo_mk, ← ex4, ← ex5, ← ex6, q9]; rw [mo_un q9, g3_4]; by_cases q8 : p3.toInt ≤ z ∧ z < j3_4.toInt; rw [if_pos q8, if_pos (by omega)]; rw [if_neg q8, if_neg (by omega)]) (by omega)
  exact lp3 ((2147483648 : Int) - (p3.toInt)).toNat H0 [] ls p3 hB hR (lv_sub hl [1, 2, 3, 4, 0] rfl) hF (by omega) (by omega) (by omega) (by omega) (fun z => by rw [if_neg (by omega)]) (by omega)
