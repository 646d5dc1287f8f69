section TVW
variable {G : th_G} {Γ : th_Ga} {H H1 : Heap} {L : List (Nat × Nat)} {A r o : Nat}
/-- the row at A, as numbers -/
def tv_v (H : Heap) (A : Nat) (z : Int) : Int := if z < 0 then 0 else (mo_i (th_sl H A z.toNat)).toInt
/-- field j of the object at A, of class k -/
def tv_f (G : th_G) (H : Heap) (A k j : Nat) : Int := (mo_i (th_sl H A (G.1.2 k j))).toInt
theorem tv_v_F {x : Nat × Nat × Nat × (Nat → th_sp)} (hF : th_F G Γ L H H1) (ha : Γ A = (r, o)) (hr : th_ro r = some (.inr x)) (hL : th_in L r 0 = false) : tv_v H1 A = tv_v H A := by
  funext z
  unfold tv_v
  rw [th_F_a hF ha hr hL]
theorem tv_f_F {k j : Nat} {fs : List th_sp} (hF : th_F G Γ L H H1) (ha : Γ A = (r, o)) (hr : th_ro r = some (.inl (k, fs))) (hj : j < fs.length) (hL : th_in L r j = false) : tv_f G H1 A k j = tv_f G H A k j := by
  unfold tv_f
  rw [th_F_o hF ha hr hj hL]
theorem tv_v_st {z : Int} {w : Int32} (hst : th_St H H1 A z.toNat (.int w)) (h0 : 0 ≤ z) : tv_v H1 A = mo_u (tv_v H A) z w.toInt := by
  obtain ⟨-, s1, s2, -⟩ := hst
  funext y
  show (if y < 0 then 0 else (mo_i (th_sl H1 A y.toNat)).toInt) = (if y = z then w.toInt else if y < 0 then 0 else (mo_i (th_sl H A y.toNat)).toInt)
  by_cases h1 : y = z
  · rw [if_pos h1, if_neg (by omega), h1, s1]
    rfl
  · rw [if_neg h1]
    by_cases h2 : y < 0
    · rw [if_pos h2, if_pos h2]
    · rw [if_neg h2, if_neg h2, s2 _ (by omega)]
theorem tv_vat {z : Int} {x : Int32} (h : th_sl H A z.toNat = .int x) (h0 : 0 ≤ z) : tv_v H A z = x.toInt := by
  unfold tv_v
  rw [if_neg (by omega), h]
  rfl
theorem tv_fat {k j : Nat} {x : Int32} (h : th_sl H A (G.1.2 k j) = .int x) : tv_f G H A k j = x.toInt := by
  unfold tv_f
  rw [h]
  rfl
theorem tv_f_St {k j : Nat} {w : Int32} (hst : th_St H H1 A (G.1.2 k j) (.int w)) : tv_f G H1 A k j = w.toInt := tv_fat hst.2.1
end TVW
set_option maxHeartbeats 4000000 in
set_option maxRecDepth 100000 in
theorem c_X11_image_k (l : Launch) (G : th_G) (Γ : th_Ga) (H0 : Heap) (hI : th_I G Γ H0) (hR : th_RC G Γ H0) (a0 : Nat) (h0 : Γ a0 = (42, 0)) (p1 : Int32) (kr : Nat) (hkr : Γ kr = (44, a0)) (mkr : th_sl H0 a0 (G.1.2 11 2) = .ref kr) : Met l yX11_image (.code yX11_image cX11_image 2 (some FieldType.int) :: th_tb) ({ frames := 3, cells := 0, slots := 0, locals := 83 } : Room) (th_P [.ref a0, .int p1] G H0) (th_Q (fun (v : Option Value) (H1 : Heap) => ∃ r : Int32, v = some (.int r) ∧ (p1.toInt < 0 ∨ 1 < p1.toInt → r.toInt = -1) ∧ (0 ≤ p1.toInt ∧ p1.toInt ≤ 1 → r.toInt = 0) ∧ th_I G Γ H1 ∧ th_F G Γ [(45, 0), (42, 14), (4, 0), (5, 0), (6, 0), (9, 0), (3, 7), (3, 8), (3, 9), (3, 10), (7, 0), (8, 0), (40, 0), (41, 0), (39, 2), (39, 3), (34, 0), (35, 0), (36, 0), (32, 5), (32, 6), (32, 7), (44, 0)] H0 H1 ∧ th_RC G Γ H1 ∧ (tv_v H1 kr = if 0 ≤ p1.toInt ∧ p1.toInt ≤ 1 then mo_u (tv_v H0 kr) p1.toInt 1 else tv_v H0 kr)) G) 0 0 (fun q => G.2.2 ≤ q) := by
  refine th_met RX11 (by decide) rfl (Nat.le_of_ble_eq_true rfl) ?_
  intro p e s m below meth c hC hH hr hlocks hnm ls hl
  have hx := hC.1
  have hb := hC.2.1
  have hB : th_B G Γ Γ [(45, 0), (42, 14), (4, 0), (5, 0), (6, 0), (9, 0), (3, 7), (3, 8), (3, 9), (3, 10), (7, 0), (8, 0), (40, 0), (41, 0), (39, 2), (39, 3), (34, 0), (35, 0), (36, 0), (32, 5), (32, 6), (32, 7), (44, 0)] H0 H0 [] := ⟨hI, va_S.rf, th_F_rf⟩
  have hl : lv_has ls 2 [(0, .ref a0), (1, .int p1)] := hl
  have lp1 := ti_lo p1; have up1 := ti_hi p1
  refine lv_iload_n hx hb dX11_image_0 rfl (lv_at hl 1 rfl) ?_
  have jn9 : ∀ (locs : List Loc) (ls : Array Slot) , th_B G Γ Γ [(45, 0), (42, 14), (4, 0), (5, 0), (6, 0), (9, 0), (3, 7), (3, 8), (3, 9), (3, 10), (7, 0), (8, 0), (40, 0), (41, 0), (39, 2), (39, 3), (34, 0), (35, 0), (36, 0), (32, 5), (32, 6), (32, 7), (44, 0)] H0 H0 locs → lv_has ls 2 [(0, .ref a0)] → p1.toInt < 0 ∨ 2 ≤ p1.toInt → W p l e ({ frames := 3, cells := 0, slots := 0, locals := 83 } : Room) s m ([.ref a0, .int p1] : List Value).toArray below meth c H0 locs 0 0 (MQ below (th_Q (fun (v : Option Value) (H1 : Heap) => ∃ r : Int32, v = some (.int r) ∧ (p1.toInt < 0 ∨ 1 < p1.toInt → r.toInt = -1) ∧ (0 ≤ p1.toInt ∧ p1.toInt ≤ 1 → r.toInt = 0) ∧ th_I G Γ H1 ∧ th_F G Γ [(45, 0), (42, 14), (4, 0), (5, 0), (6, 0), (9, 0), (3, 7), (3, 8), (3, 9), (3, 10), (7, 0), (8, 0), (40, 0), (41, 0), (39, 2), (39, 3), (34, 0), (35, 0), (36, 0), (32, 5), (32, 6), (32, 7), (44, 0)] H0 H1 ∧ th_RC G Γ H1 ∧ (tv_v H1 kr = if 0 ≤ p1.toInt ∧ p1.toInt ≤ 1 then mo_u (tv_v H0 kr) p1.toInt 1 else tv_v H0 kr)) G) ([.ref a0, .int p1] : List Value).toArray s 0 0 (fun q => G.2.2 ≤ q)) (F0 m 9 ls []) := by
    intro locs ls hB hl g9_0
    refine lv_aload_n hx hb dX11_image_9 rfl (lv_at hl 0 rfl) ?_
    refine lv_iconst (v := (-1)) hx hb dX11_image_10 (by decide) ?_
    refine th_call (th_runV (As := [.int (-1)]) (rest := []) hC mf_X11_answer km_X11_117 im_X11_answer se_X11_answer (c_X11_answer l G Γ H0 hB.1 hR a0 h0 (-1)) rfl rfl ⟨Nat.le_of_ble_eq_true rfl, Nat.le_of_ble_eq_true rfl⟩ hB.1 h0 ro_42 rfl rfl hl.1 rfl (Nat.le_of_ble_eq_true rfl) dX11_image_11 ⟨Nat.le_refl _, Nat.le_refl _⟩) hB.2.1 (fun v11 H11 locs hp hz hS => ?_)
    obtain ⟨x1, rfl, q11_0, hI1, hf, hR⟩ := hp
    have hB := th_B_c hB hI1 hS hf (by decide)
    have mm2 := (th_F_o hf h0 ro_42 (j := 2) (by decide) (by decide)).trans mkr
    have tv_k_H11 : tv_v H11 kr = tv_v H0 kr := tv_v_F hf hkr ro_44 (by decide)
    have w11_0 := tk_m1
    refine W.eq (g2 := F0 m 14 ls [.int x1]) rfl ?_
    exact th_iret hC hH hr hlocks rfl hB.2.1 ⟨_, rfl, by intros; omega, by intros; omega, hB.1, hB.2.2, hR, (by rw [if_neg (by omega)]; exact tv_k_H11)⟩ dX11_image_14
  refine tr_if_lt (tgt := 9) hx hb dX11_image_1 (by decide) (Eq.refl _) (fun c1 => ?_) (fun c1 => ?_)
  · exact jn9 [] ls hB (lv_sub hl [0] rfl) (by omega)
  · refine lv_iload_n hx hb dX11_image_4 rfl (lv_at hl 1 rfl) ?_
    refine lv_iconst (v := 2) hx hb dX11_image_5 (by decide) ?_
    refine tr_icmp_lt (tgt := 15) hx hb dX11_image_6 (by decide) (Eq.refl _) tk_2 (fun c6 => ?_) (fun c6 => ?_)
    · refine lv_aload_n hx hb dX11_image_15 rfl (lv_at hl 0 rfl) ?_
      refine th_getO (j := 1) (r2 := 43) hC cf_X11 hB.1 h0 ro_42 rfl rfl kf_X11_16 dX11_image_16 (fun b3 mb3 hb3 => ?_)
      refine lv_iload_n hx hb dX11_image_19 rfl (lv_at hl 1 rfl) ?_
      refine th_aaldF (r2 := 32) hC hB.1 hb3 ro_43 rfl (Eq.refl _) (by omega) (by omega) rfl dX11_image_20 (fun b4 mb4 hb4 => ?_)
      refine lv_aload_n hx hb dX11_image_21 rfl (lv_at hl 0 rfl) ?_
      refine th_getR (j := 0) (r2 := 32) hC cf_X11 hB.1 h0 ro_42 rfl rfl kf_X11_12 dX11_image_22 (fun b5 mb5 hb5 => ?_)
      refine th_call (th_runV (As := [.ref b5]) (rest := []) hC mf_X8_copyFrom km_X11_342 im_X8_copyFrom se_X8_copyFrom (c_X8_copyFrom l G Γ H0 hB.1 hR b4 hb4 b5 hb5) rfl rfl ⟨Nat.le_of_ble_eq_true rfl, Nat.le_of_ble_eq_true rfl⟩ hB.1 hb4 ro_32 rfl rfl hl.1 rfl (Nat.le_of_ble_eq_true rfl) dX11_image_25 ⟨Nat.le_refl _, Nat.le_refl _⟩) hB.2.1 (fun v25 H25 locs hp hz hS => ?_)
      obtain ⟨rfl, hI1, hf, hR⟩ := hp
      have hB := th_B_c hB hI1 hS hf (by decide)
      have mm6 := (th_F_o hf h0 ro_42 (j := 2) (by decide) (by decide)).trans mkr
      have tv_k_H25 : tv_v H25 kr = tv_v H0 kr := tv_v_F hf hkr ro_44 (by decide)
      refine W.eq (g2 := F0 m 28 ls []) rfl ?_
      refine lv_aload_n hx hb dX11_image_28 rfl (lv_at hl 0 rfl) ?_
      refine th_getK hC cf_X11 hB.1 h0 ro_42 rfl (j := 2) (by decide) mm6 kf_X11_20 dX11_image_29 ?_
      refine lv_iload_n hx hb dX11_image_32 rfl (lv_at hl 1 rfl) ?_
      refine lv_iconst (v := 1) hx hb dX11_image_33 (by decide) ?_
      refine th_zastF hC hB hkr (Or.inl hkr) ro_44 rfl (by decide) (Eq.refl _) (by omega) (by omega) (th_sI (by decide) (by decide)) narrow_b1 dX11_image_34 (fun H34 locs hB hf34 hst34 => ?_)
      have hf := hf34
      have mm7 := (th_F_o hf h0 ro_42 (j := 2) (by decide) (by decide)).trans mm6
      have hR := th_RC_F hB.1 hR hf (th_T_s hkr ro_44 hst34) (by decide)
      have tv_k_H34 : tv_v H34 kr = (mo_u (tv_v H0 kr) p1.toInt 1) := by rw [show (p1.toInt : Int) = p1.toInt by omega, ← tv_k_H25]; exact tv_v_st hst34 (by omega)
      refine lv_aload_n hx hb dX11_image_35 rfl (lv_at hl 0 rfl) ?_
      refine lv_iconst (v := 0) hx hb dX11_image_36 (by decide) ?_
      refine th_call (th_runV (As := [.int 0]) (rest := []) hC mf_X11_answer km_X11_117 im_X11_answer se_X11_answer (c_X11_answer l G Γ H34 hB.1 hR a0 h0 0) rfl rfl ⟨Nat.le_of_ble_eq_true rfl, Nat.le_of_ble_eq_true rfl⟩ hB.1 h0 ro_42 rfl rfl hl.1 rfl (Nat.le_of_ble_eq_true rfl) dX11_image_37 ⟨Nat.le_refl _, Nat.le_refl _⟩) hB.2.1 (fun v37 H37 locs hp hz hS => ?_)
      obtain ⟨x8, rfl, q37_0, hI1, hf, hR⟩ := hp
      have hB := th_B_c hB hI1 hS hf (by decide)
      have mm9 := (th_F_o hf h0 ro_42 (j := 2) (by decide) (by decide)).trans mm7
      have tv_k_H37 : tv_v H37 kr = (mo_u (tv_v H0 kr) p1.toInt 1) := (tv_v_F hf hkr ro_44 (by decide)).trans tv_k_H34
      have w37_0 := tk_0
      refine W.eq (g2 := F0 m 40 ls [.int x8]) rfl ?_
      exact th_iret hC hH hr hlocks rfl hB.2.1 ⟨_, rfl, by intros; omega, by intros; omega, hB.1, hB.2.2, hR, (by rw [if_pos (by omega)]; exact tv_k_H37)⟩ dX11_image_40
    · exact jn9 [] ls hB (lv_sub hl [0] rfl) (by omega)

set_option maxHeartbeats 4000000 in
set_option maxRecDepth 100000 in
theorem c_X11_back_k (l : Launch) (G : th_G) (Γ : th_Ga) (H0 : Heap) (hI : th_I G Γ H0) (hR : th_RC G Γ H0) (a0 : Nat) (h0 : Γ a0 = (42, 0)) (p1 : Int32) (kr : Nat) (hkr : Γ kr = (44, a0)) (mkr : th_sl H0 a0 (G.1.2 11 2) = .ref kr) : Met l yX11_back (.code yX11_back cX11_back 2 (some FieldType.int) :: th_tb) ({ frames := 3, cells := 0, slots := 0, locals := 83 } : Room) (th_P [.ref a0, .int p1] G H0) (th_Q (fun (v : Option Value) (H1 : Heap) => ∃ r : Int32, v = some (.int r) ∧ (p1.toInt < 0 ∨ 1 < p1.toInt → r.toInt = -1) ∧ (0 ≤ p1.toInt ∧ p1.toInt ≤ 1 → tv_v H0 kr p1.toInt = 0 → r.toInt = -2) ∧ (0 ≤ p1.toInt ∧ p1.toInt ≤ 1 → tv_v H0 kr p1.toInt ≠ 0 → r.toInt = 0) ∧ th_I G Γ H1 ∧ th_F G Γ [(45, 0), (42, 14), (4, 0), (5, 0), (6, 0), (9, 0), (3, 7), (3, 8), (3, 9), (3, 10), (7, 0), (8, 0), (40, 0), (41, 0), (39, 2), (39, 3), (34, 0), (35, 0), (36, 0), (32, 5), (32, 6), (32, 7), (17, 4)] H0 H1 ∧ th_RC G Γ H1) G) 0 0 (fun q => G.2.2 ≤ q) := by
  refine th_met RX11 (by decide) rfl (Nat.le_of_ble_eq_true rfl) ?_
  intro p e s m below meth c hC hH hr hlocks hnm ls hl
  have hx := hC.1
  have hb := hC.2.1
  have hB : th_B G Γ Γ [(45, 0), (42, 14), (4, 0), (5, 0), (6, 0), (9, 0), (3, 7), (3, 8), (3, 9), (3, 10), (7, 0), (8, 0), (40, 0), (41, 0), (39, 2), (39, 3), (34, 0), (35, 0), (36, 0), (32, 5), (32, 6), (32, 7), (17, 4)] H0 H0 [] := ⟨hI, va_S.rf, th_F_rf⟩
  have hl : lv_has ls 2 [(0, .ref a0), (1, .int p1)] := hl
  have lp1 := ti_lo p1; have up1 := ti_hi p1
  refine lv_iload_n hx hb dX11_back_0 rfl (lv_at hl 1 rfl) ?_
  have jn9 : ∀ (locs : List Loc) (ls : Array Slot) , th_B G Γ Γ [(45, 0), (42, 14), (4, 0), (5, 0), (6, 0), (9, 0), (3, 7), (3, 8), (3, 9), (3, 10), (7, 0), (8, 0), (40, 0), (41, 0), (39, 2), (39, 3), (34, 0), (35, 0), (36, 0), (32, 5), (32, 6), (32, 7), (17, 4)] H0 H0 locs → lv_has ls 2 [(0, .ref a0)] → p1.toInt < 0 ∨ 2 ≤ p1.toInt → W p l e ({ frames := 3, cells := 0, slots := 0, locals := 83 } : Room) s m ([.ref a0, .int p1] : List Value).toArray below meth c H0 locs 0 0 (MQ below (th_Q (fun (v : Option Value) (H1 : Heap) => ∃ r : Int32, v = some (.int r) ∧ (p1.toInt < 0 ∨ 1 < p1.toInt → r.toInt = -1) ∧ (0 ≤ p1.toInt ∧ p1.toInt ≤ 1 → tv_v H0 kr p1.toInt = 0 → r.toInt = -2) ∧ (0 ≤ p1.toInt ∧ p1.toInt ≤ 1 → tv_v H0 kr p1.toInt ≠ 0 → r.toInt = 0) ∧ th_I G Γ H1 ∧ th_F G Γ [(45, 0), (42, 14), (4, 0), (5, 0), (6, 0), (9, 0), (3, 7), (3, 8), (3, 9), (3, 10), (7, 0), (8, 0), (40, 0), (41, 0), (39, 2), (39, 3), (34, 0), (35, 0), (36, 0), (32, 5), (32, 6), (32, 7), (17, 4)] H0 H1 ∧ th_RC G Γ H1) G) ([.ref a0, .int p1] : List Value).toArray s 0 0 (fun q => G.2.2 ≤ q)) (F0 m 9 ls []) := by
    intro locs ls hB hl g9_0
    refine lv_aload_n hx hb dX11_back_9 rfl (lv_at hl 0 rfl) ?_
    refine lv_iconst (v := (-1)) hx hb dX11_back_10 (by decide) ?_
    refine th_call (th_runV (As := [.int (-1)]) (rest := []) hC mf_X11_answer km_X11_117 im_X11_answer se_X11_answer (c_X11_answer l G Γ H0 hB.1 hR a0 h0 (-1)) rfl rfl ⟨Nat.le_of_ble_eq_true rfl, Nat.le_of_ble_eq_true rfl⟩ hB.1 h0 ro_42 rfl rfl hl.1 rfl (Nat.le_of_ble_eq_true rfl) dX11_back_11 ⟨Nat.le_refl _, Nat.le_refl _⟩) hB.2.1 (fun v11 H11 locs hp hz hS => ?_)
    obtain ⟨x1, rfl, q11_0, hI1, hf, hR⟩ := hp
    have hB := th_B_c hB hI1 hS hf (by decide)
    have mm2 := (th_F_o hf h0 ro_42 (j := 2) (by decide) (by decide)).trans mkr
    have tv_k_H11 : tv_v H11 kr = tv_v H0 kr := tv_v_F hf hkr ro_44 (by decide)
    have w11_0 := tk_m1
    refine W.eq (g2 := F0 m 14 ls [.int x1]) rfl ?_
    exact th_iret hC hH hr hlocks rfl hB.2.1 ⟨_, rfl, by intros; omega, by intros; omega, by intros; omega, hB.1, hB.2.2, hR⟩ dX11_back_14
  refine tr_if_lt (tgt := 9) hx hb dX11_back_1 (by decide) (Eq.refl _) (fun c1 => ?_) (fun c1 => ?_)
  · exact jn9 [] ls hB (lv_sub hl [0] rfl) (by omega)
  · refine lv_iload_n hx hb dX11_back_4 rfl (lv_at hl 1 rfl) ?_
    refine lv_iconst (v := 2) hx hb dX11_back_5 (by decide) ?_
    refine tr_icmp_lt (tgt := 15) hx hb dX11_back_6 (by decide) (Eq.refl _) tk_2 (fun c6 => ?_) (fun c6 => ?_)
    · refine lv_aload_n hx hb dX11_back_15 rfl (lv_at hl 0 rfl) ?_
      refine th_getK hC cf_X11 hB.1 h0 ro_42 rfl (j := 2) (by decide) mkr kf_X11_20 dX11_back_16 ?_
      refine lv_iload_n hx hb dX11_back_19 rfl (lv_at hl 1 rfl) ?_
      refine th_zaldF hC hB.1 hkr ro_44 rfl (Eq.refl _) (by omega) (by omega) rfl dX11_back_20 (fun x3 mx3 lx3 ux3 => ?_)
      have twx3 : (tv_v H0 kr) p1.toInt = x3.toInt := by rw [show (p1.toInt : Int) = p1.toInt by omega]; exact tv_vat mx3 (by omega)
      refine tr_if_ne (tgt := 31) hx hb dX11_back_21 (by decide) (Eq.refl _) (fun c21 => ?_) (fun c21 => ?_)
      · refine lv_aload_n hx hb dX11_back_31 rfl (lv_at hl 0 rfl) ?_
        refine th_getR (j := 0) (r2 := 32) hC cf_X11 hB.1 h0 ro_42 rfl rfl kf_X11_12 dX11_back_32 (fun b4 mb4 hb4 => ?_)
        refine lv_aload_n hx hb dX11_back_35 rfl (lv_at hl 0 rfl) ?_
        refine th_getO (j := 1) (r2 := 43) hC cf_X11 hB.1 h0 ro_42 rfl rfl kf_X11_16 dX11_back_36 (fun b5 mb5 hb5 => ?_)
        refine lv_iload_n hx hb dX11_back_39 rfl (lv_at hl 1 rfl) ?_
        refine th_aaldF (r2 := 32) hC hB.1 hb5 ro_43 rfl (Eq.refl _) (by omega) (by omega) rfl dX11_back_40 (fun b6 mb6 hb6 => ?_)
        refine th_call (th_runV (As := [.ref b6]) (rest := []) hC mf_X8_copyFrom km_X11_342 im_X8_copyFrom se_X8_copyFrom (c_X8_copyFrom l G Γ H0 hB.1 hR b4 hb4 b6 hb6) rfl rfl ⟨Nat.le_of_ble_eq_true rfl, Nat.le_of_ble_eq_true rfl⟩ hB.1 hb4 ro_32 rfl rfl hl.1 rfl (Nat.le_of_ble_eq_true rfl) dX11_back_41 ⟨Nat.le_refl _, Nat.le_refl _⟩) hB.2.1 (fun v41 H41 locs hp hz hS => ?_)
        obtain ⟨rfl, hI1, hf, hR⟩ := hp
        have hB := th_B_c hB hI1 hS hf (by decide)
        have mm7 := (th_F_o hf h0 ro_42 (j := 2) (by decide) (by decide)).trans mkr
        have tv_k_H41 : tv_v H41 kr = tv_v H0 kr := tv_v_F hf hkr ro_44 (by decide)
        refine W.eq (g2 := F0 m 44 ls []) rfl ?_
        refine lv_aload_n hx hb dX11_back_44 rfl (lv_at hl 0 rfl) ?_
        refine th_getR (j := 10) (r2 := 17) hC cf_X11 hB.1 h0 ro_42 rfl rfl kf_X11_72 dX11_back_45 (fun b8 mb8 hb8 => ?_)
        refine th_call (th_runV (As := []) (rest := []) hC mf_X4_clear km_X11_114 im_X4_clear se_X4_clear (c_X4_clear l G Γ H41 hB.1 hR b8 hb8) rfl rfl ⟨Nat.le_of_ble_eq_true rfl, Nat.le_of_ble_eq_true rfl⟩ hB.1 hb8 ro_17 rfl rfl hl.1 rfl (Nat.le_of_ble_eq_true rfl) dX11_back_48 ⟨Nat.le_refl _, Nat.le_refl _⟩) hB.2.1 (fun v48 H48 locs hp hz hS => ?_)
        obtain ⟨rfl, hI1, hf, hR⟩ := hp
        have hB := th_B_c hB hI1 hS hf (by decide)
        have mm9 := (th_F_o hf h0 ro_42 (j := 2) (by decide) (by decide)).trans mm7
        have tv_k_H48 : tv_v H48 kr = tv_v H0 kr := (tv_v_F hf hkr ro_44 (by decide)).trans tv_k_H41
        refine W.eq (g2 := F0 m 51 ls []) rfl ?_
        refine lv_aload_n hx hb dX11_back_51 rfl (lv_at hl 0 rfl) ?_
        refine lv_iconst (v := 0) hx hb dX11_back_52 (by decide) ?_
        refine th_call (th_runV (As := [.int 0]) (rest := []) hC mf_X11_answer km_X11_117 im_X11_answer se_X11_answer (c_X11_answer l G Γ H48 hB.1 hR a0 h0 0) rfl rfl ⟨Nat.le_of_ble_eq_true rfl, Nat.le_of_ble_eq_true rfl⟩ hB.1 h0 ro_42 rfl rfl hl.1 rfl (Nat.le_of_ble_eq_true rfl) dX11_back_53 ⟨Nat.le_refl _, Nat.le_refl _⟩) hB.2.1 (fun v53 H53 locs hp hz hS => ?_)
        obtain ⟨x10, rfl, q53_0, hI1, hf, hR⟩ := hp
        have hB := th_B_c hB hI1 hS hf (by decide)
        have mm11 := (th_F_o hf h0 ro_42 (j := 2) (by decide) (by decide)).trans mm9
        have tv_k_H53 : tv_v H53 kr = tv_v H0 kr := (tv_v_F hf hkr ro_44 (by decide)).trans tv_k_H48
        have w53_0 := tk_0
        refine W.eq (g2 := F0 m 56 ls [.int x10]) rfl ?_
        exact th_iret hC hH hr hlocks rfl hB.2.1 ⟨_, rfl, by intros; omega, by intros; omega, by intros; omega, hB.1, hB.2.2, hR⟩ dX11_back_56
      · refine lv_aload_n hx hb dX11_back_24 rfl (lv_at hl 0 rfl) ?_
        refine lv_bipush (v := (-2)) hx hb dX11_back_25 (by decide) ?_
        refine th_call (th_runV (As := [.int (-2)]) (rest := []) hC mf_X11_answer km_X11_117 im_X11_answer se_X11_answer (c_X11_answer l G Γ H0 hB.1 hR a0 h0 (-2)) rfl rfl ⟨Nat.le_of_ble_eq_true rfl, Nat.le_of_ble_eq_true rfl⟩ hB.1 h0 ro_42 rfl rfl hl.1 rfl (Nat.le_of_ble_eq_true rfl) dX11_back_27 ⟨Nat.le_refl _, Nat.le_refl _⟩) hB.2.1 (fun v27 H27 locs hp hz hS => ?_)
        obtain ⟨x12, rfl, q27_0, hI1, hf, hR⟩ := hp
        have hB := th_B_c hB hI1 hS hf (by decide)
        have mm13 := (th_F_o hf h0 ro_42 (j := 2) (by decide) (by decide)).trans mkr
        have tv_k_H27 : tv_v H27 kr = tv_v H0 kr := tv_v_F hf hkr ro_44 (by decide)
        have w27_0 := tk_m2
        refine W.eq (g2 := F0 m 30 ls [.int x12]) rfl ?_
        exact th_iret hC hH hr hlocks rfl hB.2.1 ⟨_, rfl, by intros; omega, by intros; omega, by intros; omega, hB.1, hB.2.2, hR⟩ dX11_back_30
    · exact jn9 [] ls hB (lv_sub hl [0] rfl) (by omega)

set_option maxHeartbeats 4000000 in
set_option maxRecDepth 100000 in
theorem c_X12_image_k (l : Launch) (G : th_G) (Γ : th_Ga) (H0 : Heap) (hI : th_I G Γ H0) (a0 : Nat) (h0 : Γ a0 = (46, 0)) (hR : th_RN a0 G Γ H0) (p1 : Int32) : Met l yX12_image (.code yX12_image cX12_image 3 (some FieldType.int) :: th_tb) ({ frames := 1, cells := 0, slots := 0, locals := 22 } : Room) (th_P [.ref a0, .int p1] G H0) (th_Q (fun (v : Option Value) (H1 : Heap) => ∃ r : Int32, v = some (.int r) ∧ (p1.toInt < 0 ∨ 1 < p1.toInt → r.toInt = -1) ∧ (0 ≤ p1.toInt ∧ p1.toInt ≤ 1 → r.toInt = 0) ∧ th_I G Γ H1 ∧ th_F G Γ [(47, 0), (46, 0), (49, 0), (50, 0)] H0 H1 ∧ th_RN a0 G Γ H1 ∧ (mo_v G H1 a0 4 = if 0 ≤ p1.toInt ∧ p1.toInt ≤ 1 then mo_u (mo_v G H0 a0 4) p1.toInt 1 else mo_v G H0 a0 4)) G) 0 0 (fun q => G.2.2 ≤ q) := by
  refine th_met RX12 (by decide) rfl (Nat.le_of_ble_eq_true rfl) ?_
  intro p e s m below meth c hC hH hr hlocks hnm ls hl
  have hx := hC.1
  have hb := hC.2.1
  have hB : th_B G Γ Γ [(47, 0), (46, 0), (49, 0), (50, 0)] H0 H0 [] := ⟨hI, va_S.rf, th_F_rf⟩
  have hl : lv_has ls 3 [(0, .ref a0), (1, .int p1)] := hl
  have lp1 := ti_lo p1; have up1 := ti_hi p1
  refine lv_iload_n hx hb dX12_image_0 rfl (lv_at hl 1 rfl) ?_
  refine lv_iconst (v := 0) hx hb dX12_image_1 (by decide) ?_
  refine lv_iconst (v := 1) hx hb dX12_image_2 (by decide) ?_
  refine th_call (th_runS (As := [.int p1, .int 0, .int 1]) (rest := []) hC mf_X12_lies km_X12_18 st_X12_lies (c_X12_lies l G Γ H0 hB.1 p1 0 1) rfl rfl ⟨Nat.le_of_ble_eq_true rfl, Nat.le_of_ble_eq_true rfl⟩ rfl hl.1 rfl (Nat.le_of_ble_eq_true rfl) dX12_image_3 ⟨Nat.le_refl _, Nat.le_refl _⟩) hB.2.1 (fun v3 H3 locs hp hz hS => ?_)
  obtain ⟨x1, rfl, lx1, ux1, q3_0, q3_1, rfl⟩ := hp
  have hB := th_B_s hB hS
  have w3_1 := tk_0
  have w3_2 := tk_1
  refine W.eq (g2 := F0 m 6 ls [.int x1]) rfl ?_
  refine tr_if_ne (tgt := 15) hx hb dX12_image_6 (by decide) (Eq.refl _) (fun c6 => ?_) (fun c6 => ?_)
  · refine lv_iconst (v := 0) hx hb dX12_image_15 (by decide) ?_
    have hR0 := hR
    have hR := th_NK hR
    refine lv_istore_n (lv' := [(2, .int 0), (0, .ref a0), (1, .int p1)]) hx hb dX12_image_16 rfl hl (by decide) rfl (fun ls hl => ?_)
    have lp17 : ∀ (n17 : Nat) (H17 : Heap) (locs : List Loc) (ls : Array Slot) (j17_2 : Int32), th_B G Γ Γ [(47, 0), (46, 0), (49, 0), (50, 0)] H0 H17 locs → th_RK a0 G Γ H17 → lv_has ls 3 [(0, .ref a0), (1, .int p1), (2, .int j17_2)] → 0 ≤ j17_2.toInt → j17_2.toInt ≤ 5680 → (∀ z : Int, mo_v G H17 a0 3 z = if 5680 * p1.toInt ≤ z ∧ z < 5680 * p1.toInt + j17_2.toInt then mo_v G H0 a0 2 (z - 5680 * p1.toInt) else mo_v G H0 a0 3 z) → mo_v G H17 a0 4 = mo_v G H0 a0 4 → (2147483648 : Int) - j17_2.toInt ≤ (n17 : Int) → W p l e ({ frames := 1, cells := 0, slots := 0, locals := 22 } : Room) s m ([.ref a0, .int p1] : List Value).toArray below meth c H17 locs 0 0 (MQ below (th_Q (fun (v : Option Value) (H1 : Heap) => ∃ r : Int32, v = some (.int r) ∧ (p1.toInt < 0 ∨ 1 < p1.toInt → r.toInt = -1) ∧ (0 ≤ p1.toInt ∧ p1.toInt ≤ 1 → r.toInt = 0) ∧ th_I G Γ H1 ∧ th_F G Γ [(47, 0), (46, 0), (49, 0), (50, 0)] H0 H1 ∧ th_RN a0 G Γ H1 ∧ (mo_v G H1 a0 4 = if 0 ≤ p1.toInt ∧ p1.toInt ≤ 1 then mo_u (mo_v G H0 a0 4) p1.toInt 1 else mo_v G H0 a0 4)) G) ([.ref a0, .int p1] : List Value).toArray s 0 0 (fun q => G.2.2 ≤ q)) (F0 m 17 ls []) := by
      intro n17
      induction n17 with
      | zero => intro H17 locs ls j17_2 hB hR hl g17_0 g17_1 g17_2 g17_3 hm17; exact absurd hm17 (by have := ti_hi j17_2; omega)
      | succ n17 ih17 =>
        intro H17 locs ls j17_2 hB hR hl g17_0 g17_1 g17_2 g17_3 hm17
        have lj17_2 := ti_lo j17_2; have uj17_2 := ti_hi j17_2
        have fv2_33 : mo_f G H17 a0 33 = mo_f G H0 a0 33 := mo_f_F hB.2.2 h0 (by decide) (by decide)
        have vw_H17_2 : mo_v G H17 a0 2 = mo_v G H0 a0 2 := mo_v_F (r := 48) hB.1 hB.2.2 h0 rfl ro_48 (by decide) (by decide)
        have vw_H17_31 : mo_v G H17 a0 31 = mo_v G H0 a0 31 := mo_v_F (r := 61) hB.1 hB.2.2 h0 rfl ro_61 (by decide) (by decide)
        have hm17 : (2147483648 : Int) - j17_2.toInt ≤ (n17 : Int) + 1 := by omega
        refine lv_iload_n hx hb dX12_image_17 rfl (lv_at hl 2 rfl) ?_
        refine lv_sipush (v := 5680) hx hb dX12_image_18 (by decide) ?_
        refine tr_icmp_ge (tgt := 48) hx hb dX12_image_21 (by decide) (Eq.refl _) tk_5680 (fun c21 => ?_) (fun c21 => ?_)
        · refine lv_aload_n hx hb dX12_image_48 rfl (lv_at hl 0 rfl) ?_
          refine th_getO (j := 4) (r2 := 50) hC cf_X12 hB.1 h0 ro_46 rfl rfl kf_X12_34 dX12_image_49 (fun b3 mb3 hb3 => ?_)
          refine lv_iload_n hx hb dX12_image_52 rfl (lv_at hl 1 rfl) ?_
          refine lv_iconst (v := 1) hx hb dX12_image_53 (by decide) ?_
          refine th_zastF hC hB hb3 (Or.inl hb3) ro_50 rfl (by decide) (Eq.refl _) (by omega) (by omega) (th_sI (by decide) (by decide)) narrow_b1 dX12_image_54 (fun H54 locs hB hf54 hst54 => ?_)
          have hf := hf54
          have hR := th_RK_F hB.1 hR h0 hf (th_T_s hb3 ro_50 hst54) (by decide)
          have fv_H54_33 : mo_f G H54 a0 33 = mo_f G H17 a0 33 := mo_f_F hf h0 (by decide) (by decide)
          have vv_H54_2 : mo_v G H54 a0 2 = mo_v G H17 a0 2 := mo_v_F (r := 48) hB.1 hf h0 rfl ro_48 (by decide) (by decide)
          have vv_H54_3 : mo_v G H54 a0 3 = mo_v G H17 a0 3 := mo_v_F (r := 49) hB.1 hf h0 rfl ro_49 (by decide) (by decide)
          have vv_H54_31 : mo_v G H54 a0 31 = mo_v G H17 a0 31 := mo_v_F (r := 61) hB.1 hf h0 rfl ro_61 (by decide) (by decide)
          have vs54 : mo_v G H54 a0 4 = mo_u (mo_v G H17 a0 4) p1.toInt 1 := by rw [show (p1.toInt : Int) = p1.toInt by omega]; exact mo_v_st h0 hb3 (by decide) mb3 hst54 (by omega)
          have hR : th_RN a0 G Γ H54 := ⟨hR.1, by rw [mo_v_F (j := 2) (r := 48) hB.1 hB.2.2 h0 rfl ro_48 (by decide) (by decide), mo_v_F (j := 31) (r := 61) hB.1 hB.2.2 h0 rfl ro_61 (by decide) (by decide), mo_f_F hB.2.2 h0 (j := 33) (by decide) (by decide), vs54, g17_3]; exact mo_ok_im hR0.2 (by omega) (by omega) (fun z => by rw [vv_H54_3, g17_2 z, show j17_2.toInt = 5680 by omega])⟩
          refine lv_aload_n hx hb dX12_image_55 rfl (lv_at hl 0 rfl) ?_
          refine lv_iconst (v := 0) hx hb dX12_image_56 (by decide) ?_
          refine th_call (th_runV (As := [.int 0]) (rest := []) hC mf_X12_good km_X12_14 im_X12_good se_X12_good (c_X12_good l G Γ H54 hB.1 hR.1 a0 h0 0) rfl rfl ⟨Nat.le_of_ble_eq_true rfl, Nat.le_of_ble_eq_true rfl⟩ hB.1 h0 ro_46 rfl rfl hl.1 rfl (Nat.le_of_ble_eq_true rfl) dX12_image_57 ⟨Nat.le_refl _, Nat.le_refl _⟩) hB.2.1 (fun v57 H57 locs hp hz hS => ?_)
          have hRD := hR
          obtain ⟨x4, rfl, q57_0, hI1, hf, hR⟩ := hp
          have hR := th_RN_c hR hRD hI1 h0 hf (by decide)
          have hB := th_B_c hB hI1 hS hf (by decide)
          have fv_H57_33 : mo_f G H57 a0 33 = mo_f G H54 a0 33 := mo_f_F hf h0 (by decide) (by decide)
          have vv_H57_2 : mo_v G H57 a0 2 = mo_v G H54 a0 2 := mo_v_F (r := 48) hB.1 hf h0 rfl ro_48 (by decide) (by decide)
          have vv_H57_3 : mo_v G H57 a0 3 = mo_v G H54 a0 3 := mo_v_F (r := 49) hB.1 hf h0 rfl ro_49 (by decide) (by decide)
          have vv_H57_4 : mo_v G H57 a0 4 = mo_v G H54 a0 4 := mo_v_F (r := 50) hB.1 hf h0 rfl ro_50 (by decide) (by decide)
          have vv_H57_31 : mo_v G H57 a0 31 = mo_v G H54 a0 31 := mo_v_F (r := 61) hB.1 hf h0 rfl ro_61 (by decide) (by decide)
          have w57_0 := tk_0
          refine W.eq (g2 := F0 m 60 ls [.int x4]) rfl ?_
          exact th_iret hC hH hr hlocks rfl hB.2.1 ⟨_, rfl, by intros; omega, by intros; omega, hB.1, hB.2.2, hR, (by rw [if_pos (by omega), vv_H57_4, vs54, g17_3])⟩ dX12_image_60
        · refine lv_aload_n hx hb dX12_image_24 rfl (lv_at hl 0 rfl) ?_
          refine th_getO (j := 3) (r2 := 49) hC cf_X12 hB.1 h0 ro_46 rfl rfl kf_X12_31 dX12_image_25 (fun b5 mb5 hb5 => ?_)
          have sb5 := (th_F_o hB.2.2 h0 ro_46 (j := 3) (by decide) (by decide)).symm.trans mb5
          refine lv_sipush (v := 5680) hx hb dX12_image_28 (by decide) ?_
          refine lv_iload_n hx hb dX12_image_31 rfl (lv_at hl 1 rfl) ?_
          refine tr_imul hx hb dX12_image_32 tk_5680 (Eq.refl _) (by omega) (by omega) (fun x6 ex6 => ?_)
          refine lv_iload_n hx hb dX12_image_33 rfl (lv_at hl 2 rfl) ?_
          refine tr_iadd hx hb dX12_image_34 (Eq.refl _) (Eq.refl _) (by omega) (by omega) (fun x7 ex7 => ?_)
          refine lv_aload_n hx hb dX12_image_35 rfl (lv_at hl 0 rfl) ?_
          refine th_getO (j := 2) (r2 := 48) hC cf_X12 hB.1 h0 ro_46 rfl rfl kf_X12_28 dX12_image_36 (fun b8 mb8 hb8 => ?_)
          have sb8 := (th_F_o hB.2.2 h0 ro_46 (j := 2) (by decide) (by decide)).symm.trans mb8
          refine lv_iload_n hx hb dX12_image_39 rfl (lv_at hl 2 rfl) ?_
          refine th_ialdS hC hB.1 hb8 ro_48 rfl (Eq.refl _) (by omega) (by omega) (th_esk1 _) dX12_image_40 (fun x9 mx9 tx9 => ?_)
          have lx9 := ti_lo x9; have ux9 := ti_hi x9
          have vgx9 : mo_v G H0 a0 2 j17_2.toInt = x9.toInt := by rw [← (mo_v_F (r := 48) hB.1 hB.2.2 h0 rfl ro_48 (by decide) (by decide) : mo_v G H17 a0 2 = _)]; rw [show (j17_2.toInt : Int) = j17_2.toInt by omega]; exact mo_vat mb8 mx9 (by omega)
          refine th_iastF hC hB hb5 (Or.inl hb5) ro_49 rfl (by decide) (Eq.refl _) (by omega) (by omega) (by rw [mo_esi (k := p1.toInt) (i := j17_2.toInt) (by omega) (by omega) (by omega) _ (by omega)]; exact th_sat_m (th_esk1 _) tx9) dX12_image_41 (fun H41 locs hB hf41 hst41 => ?_)
          have hf := hf41
          have mm10 := (th_F_o hf h0 ro_46 (j := 3) (by decide) (by decide)).trans mb5
          have mm11 := (th_F_o hf h0 ro_46 (j := 2) (by decide) (by decide)).trans mb8
          have hR := th_RK_F hB.1 hR h0 hf (th_T_s hb5 ro_49 hst41) (by decide)
          have fv_H41_33 : mo_f G H41 a0 33 = mo_f G H17 a0 33 := mo_f_F hf h0 (by decide) (by decide)
          have vv_H41_2 : mo_v G H41 a0 2 = mo_v G H17 a0 2 := mo_v_F (r := 48) hB.1 hf h0 rfl ro_48 (by decide) (by decide)
          have vv_H41_4 : mo_v G H41 a0 4 = mo_v G H17 a0 4 := mo_v_F (r := 50) hB.1 hf h0 rfl ro_50 (by decide) (by decide)
          have vv_H41_31 : mo_v G H41 a0 31 = mo_v G H17 a0 31 := mo_v_F (r := 61) hB.1 hf h0 rfl ro_61 (by decide) (by decide)
          have vs41 : mo_v G H41 a0 3 = mo_u (mo_v G H17 a0 3) ((5680 * p1.toInt) + j17_2.toInt) x9.toInt := by rw [show (((5680 * p1.toInt) + j17_2.toInt) : Int) = x7.toInt by omega]; exact mo_v_st h0 hb5 (by decide) mb5 hst41 (by omega)
          refine tr_iinc (fun x12 => [(2, .int x12), (0, .ref a0), (1, .int p1)]) hx hb dX12_image_42 hl (k := 2) rfl (Eq.refl _) tk_1 (by omega) (by omega) (by decide) (fun _ => rfl) (fun x12 ls ex12 hl => ?_)
          refine lv_goto (tgt := 17) hx hb dX12_image_45 (by decide) ?_
          exact ih17 H41 locs ls x12 hB hR (lv_sub hl [1, 2, 0] rfl) (by omega) (by omega) (fun z => by rw [vs41]; by_cases q9 : z = ((5680 * p1.toInt) + j17_2.toInt); rw [mo_us q9, if_pos (by omega), ← vgx9]; congr 1; omega; rw [mo_un q9, g17_2]; by_cases q8 : 5680 * p1.toInt ≤ z ∧ z < 5680 * p1.toInt + j17_2.toInt; rw [if_pos q8, if_pos (by omega)]; rw [if_neg q8, if_neg (by omega)]) (vv_H41_4.trans g17_3) (by omega)
    exact lp17 ((2147483648 : Int) - (0)).toNat H0 locs ls 0 hB hR (lv_sub hl [1, 2, 0] rfl) (by decide) (by decide) (fun z => by rw [if_neg (by have w0 := tk_0; omega)]) rfl (by have w0 := tk_0; omega)
  · refine lv_aload_n hx hb dX12_image_9 rfl (lv_at hl 0 rfl) ?_
    refine lv_iconst (v := (-1)) hx hb dX12_image_10 (by decide) ?_
    refine th_call (th_runV (As := [.int (-1)]) (rest := []) hC mf_X12_refuses km_X12_109 im_X12_refuses se_X12_refuses (c_X12_refuses l G Γ H0 hB.1 hR.1 a0 h0 (-1) (by decide) (by decide)) rfl rfl ⟨Nat.le_of_ble_eq_true rfl, Nat.le_of_ble_eq_true rfl⟩ hB.1 h0 ro_46 rfl rfl hl.1 rfl (Nat.le_of_ble_eq_true rfl) dX12_image_11 ⟨Nat.le_refl _, Nat.le_refl _⟩) hB.2.1 (fun v11 H11 locs hp hz hS => ?_)
    have hRD := hR
    obtain ⟨x13, rfl, q11_0, hI1, hf, hR⟩ := hp
    have hR := th_RN_c hR hRD hI1 h0 hf (by decide)
    have hB := th_B_c hB hI1 hS hf (by decide)
    have fv_H11_33 : mo_f G H11 a0 33 = mo_f G H0 a0 33 := mo_f_F hf h0 (by decide) (by decide)
    have vv_H11_2 : mo_v G H11 a0 2 = mo_v G H0 a0 2 := mo_v_F (r := 48) hB.1 hf h0 rfl ro_48 (by decide) (by decide)
    have vv_H11_3 : mo_v G H11 a0 3 = mo_v G H0 a0 3 := mo_v_F (r := 49) hB.1 hf h0 rfl ro_49 (by decide) (by decide)
    have vv_H11_4 : mo_v G H11 a0 4 = mo_v G H0 a0 4 := mo_v_F (r := 50) hB.1 hf h0 rfl ro_50 (by decide) (by decide)
    have vv_H11_31 : mo_v G H11 a0 31 = mo_v G H0 a0 31 := mo_v_F (r := 61) hB.1 hf h0 rfl ro_61 (by decide) (by decide)
    have w11_0 := tk_m1
    refine W.eq (g2 := F0 m 14 ls [.int x13]) rfl ?_
    exact th_iret hC hH hr hlocks rfl hB.2.1 ⟨_, rfl, by intros; omega, by intros; omega, hB.1, hB.2.2, hR, (by rw [if_neg (by omega), vv_H11_4])⟩ dX12_image_14

set_option maxHeartbeats 4000000 in
set_option maxRecDepth 100000 in
theorem c_X12_back_k (l : Launch) (G : th_G) (Γ : th_Ga) (H0 : Heap) (hI : th_I G Γ H0) (a0 : Nat) (h0 : Γ a0 = (46, 0)) (hR : th_RN a0 G Γ H0) (p1 : Int32) : Met l yX12_back (.code yX12_back cX12_back 3 (some FieldType.int) :: th_tb) ({ frames := 2, cells := 0, slots := 0, locals := 42 } : Room) (th_P [.ref a0, .int p1] G H0) (th_Q (fun (v : Option Value) (H1 : Heap) => ∃ r : Int32, v = some (.int r) ∧ (p1.toInt < 0 ∨ 1 < p1.toInt → r.toInt = -1) ∧ (0 ≤ p1.toInt ∧ p1.toInt ≤ 1 → mo_v G H0 a0 4 p1.toInt = 0 → r.toInt = -2) ∧ (0 ≤ p1.toInt ∧ p1.toInt ≤ 1 → mo_v G H0 a0 4 p1.toInt ≠ 0 → r.toInt = 0) ∧ th_I G Γ H1 ∧ th_F G Γ [(47, 0), (46, 0), (48, 0), (46, 33)] H0 H1 ∧ th_RN a0 G Γ H1) G) 0 0 (fun q => G.2.2 ≤ q) := by
  refine th_met RX12 (by decide) rfl (Nat.le_of_ble_eq_true rfl) ?_
  intro p e s m below meth c hC hH hr hlocks hnm ls hl
  have hx := hC.1
  have hb := hC.2.1
  have hB : th_B G Γ Γ [(47, 0), (46, 0), (48, 0), (46, 33)] H0 H0 [] := ⟨hI, va_S.rf, th_F_rf⟩
  have hl : lv_has ls 3 [(0, .ref a0), (1, .int p1)] := hl
  have lp1 := ti_lo p1; have up1 := ti_hi p1
  refine lv_iload_n hx hb dX12_back_0 rfl (lv_at hl 1 rfl) ?_
  refine lv_iconst (v := 0) hx hb dX12_back_1 (by decide) ?_
  refine lv_iconst (v := 1) hx hb dX12_back_2 (by decide) ?_
  refine th_call (th_runS (As := [.int p1, .int 0, .int 1]) (rest := []) hC mf_X12_lies km_X12_18 st_X12_lies (c_X12_lies l G Γ H0 hB.1 p1 0 1) rfl rfl ⟨Nat.le_of_ble_eq_true rfl, Nat.le_of_ble_eq_true rfl⟩ rfl hl.1 rfl (Nat.le_of_ble_eq_true rfl) dX12_back_3 ⟨Nat.le_refl _, Nat.le_refl _⟩) hB.2.1 (fun v3 H3 locs hp hz hS => ?_)
  obtain ⟨x1, rfl, lx1, ux1, q3_0, q3_1, rfl⟩ := hp
  have hB := th_B_s hB hS
  have w3_1 := tk_0
  have w3_2 := tk_1
  refine W.eq (g2 := F0 m 6 ls [.int x1]) rfl ?_
  refine tr_if_ne (tgt := 15) hx hb dX12_back_6 (by decide) (Eq.refl _) (fun c6 => ?_) (fun c6 => ?_)
  · refine lv_aload_n hx hb dX12_back_15 rfl (lv_at hl 0 rfl) ?_
    refine th_getO (j := 4) (r2 := 50) hC cf_X12 hB.1 h0 ro_46 rfl rfl kf_X12_34 dX12_back_16 (fun b2 mb2 hb2 => ?_)
    refine lv_iload_n hx hb dX12_back_19 rfl (lv_at hl 1 rfl) ?_
    refine th_zaldF hC hB.1 hb2 ro_50 rfl (Eq.refl _) (by omega) (by omega) rfl dX12_back_20 (fun x3 mx3 lx3 ux3 => ?_)
    have vgx3 : mo_v G H0 a0 4 p1.toInt = x3.toInt := by rw [show (p1.toInt : Int) = p1.toInt by omega]; exact mo_vat mb2 mx3 (by omega)
    refine tr_if_ne (tgt := 31) hx hb dX12_back_21 (by decide) (Eq.refl _) (fun c21 => ?_) (fun c21 => ?_)
    · refine lv_iconst (v := 0) hx hb dX12_back_31 (by decide) ?_
      have hR0 := hR
      have hR := hR.1
      have hs1 : mo_v G H0 a0 4 p1.toInt = 1 := by omega
      refine lv_istore_n (lv' := [(2, .int 0), (0, .ref a0), (1, .int p1)]) hx hb dX12_back_32 rfl hl (by decide) rfl (fun ls hl => ?_)
      have lp33 : ∀ (n33 : Nat) (H33 : Heap) (locs : List Loc) (ls : Array Slot) (j33_2 : Int32), th_B G Γ Γ [(47, 0), (46, 0), (48, 0), (46, 33)] H0 H33 locs → th_RC G Γ H33 → lv_has ls 3 [(0, .ref a0), (1, .int p1), (2, .int j33_2)] → 0 ≤ j33_2.toInt → j33_2.toInt ≤ 5680 → (∀ z : Int, 0 ≤ z → mo_v G H33 a0 2 z = if z < j33_2.toInt then mo_v G H0 a0 3 (5680 * p1.toInt + z) else mo_v G H0 a0 2 z) → (2147483648 : Int) - j33_2.toInt ≤ (n33 : Int) → W p l e ({ frames := 2, cells := 0, slots := 0, locals := 42 } : Room) s m ([.ref a0, .int p1] : List Value).toArray below meth c H33 locs 0 0 (MQ below (th_Q (fun (v : Option Value) (H1 : Heap) => ∃ r : Int32, v = some (.int r) ∧ (p1.toInt < 0 ∨ 1 < p1.toInt → r.toInt = -1) ∧ (0 ≤ p1.toInt ∧ p1.toInt ≤ 1 → mo_v G H0 a0 4 p1.toInt = 0 → r.toInt = -2) ∧ (0 ≤ p1.toInt ∧ p1.toInt ≤ 1 → mo_v G H0 a0 4 p1.toInt ≠ 0 → r.toInt = 0) ∧ th_I G Γ H1 ∧ th_F G Γ [(47, 0), (46, 0), (48, 0), (46, 33)] H0 H1 ∧ th_RN a0 G Γ H1) G) ([.ref a0, .int p1] : List Value).toArray s 0 0 (fun q => G.2.2 ≤ q)) (F0 m 33 ls []) := by
        intro n33
        induction n33 with
        | zero => intro H33 locs ls j33_2 hB hR hl g33_0 g33_1 g33_2 hm33; exact absurd hm33 (by have := ti_hi j33_2; omega)
        | succ n33 ih33 =>
          intro H33 locs ls j33_2 hB hR hl g33_0 g33_1 g33_2 hm33
          have lj33_2 := ti_lo j33_2; have uj33_2 := ti_hi j33_2
          have vw_H33_3 : mo_v G H33 a0 3 = mo_v G H0 a0 3 := mo_v_F (r := 49) hB.1 hB.2.2 h0 rfl ro_49 (by decide) (by decide)
          have vw_H33_4 : mo_v G H33 a0 4 = mo_v G H0 a0 4 := mo_v_F (r := 50) hB.1 hB.2.2 h0 rfl ro_50 (by decide) (by decide)
          have vw_H33_31 : mo_v G H33 a0 31 = mo_v G H0 a0 31 := mo_v_F (r := 61) hB.1 hB.2.2 h0 rfl ro_61 (by decide) (by decide)
          have hm33 : (2147483648 : Int) - j33_2.toInt ≤ (n33 : Int) + 1 := by omega
          refine lv_iload_n hx hb dX12_back_33 rfl (lv_at hl 2 rfl) ?_
          refine lv_sipush (v := 5680) hx hb dX12_back_34 (by decide) ?_
          refine tr_icmp_ge (tgt := 64) hx hb dX12_back_37 (by decide) (Eq.refl _) tk_5680 (fun c37 => ?_) (fun c37 => ?_)
          · refine lv_aload_n hx hb dX12_back_64 rfl (lv_at hl 0 rfl) ?_
            refine lv_iconst (v := 0) hx hb dX12_back_65 (by decide) ?_
            refine th_call (th_runV (As := [.int 0]) (rest := []) hC mf_X12_settled km_X12_112 im_X12_settled se_X12_settled (c_X12_settled l G Γ H33 hB.1 hR a0 h0 0) rfl rfl ⟨Nat.le_of_ble_eq_true rfl, Nat.le_of_ble_eq_true rfl⟩ hB.1 h0 ro_46 rfl rfl hl.1 rfl (Nat.le_of_ble_eq_true rfl) dX12_back_66 ⟨Nat.le_refl _, Nat.le_refl _⟩) hB.2.1 (fun v66 H66 locs hp hz hS => ?_)
            obtain ⟨x4, rfl, q66_0, hI1, hf, hR, z66_0⟩ := hp
            have hB := th_B_c hB hI1 hS hf (by decide)
            have vv_H66_2 : mo_v G H66 a0 2 = mo_v G H33 a0 2 := mo_v_F (r := 48) hB.1 hf h0 rfl ro_48 (by decide) (by decide)
            have vv_H66_3 : mo_v G H66 a0 3 = mo_v G H33 a0 3 := mo_v_F (r := 49) hB.1 hf h0 rfl ro_49 (by decide) (by decide)
            have vv_H66_4 : mo_v G H66 a0 4 = mo_v G H33 a0 4 := mo_v_F (r := 50) hB.1 hf h0 rfl ro_50 (by decide) (by decide)
            have vv_H66_31 : mo_v G H66 a0 31 = mo_v G H33 a0 31 := mo_v_F (r := 61) hB.1 hf h0 rfl ro_61 (by decide) (by decide)
            have w66_0 := tk_0
            refine W.eq (g2 := F0 m 69 ls [.int x4]) rfl ?_
            have hR : th_RN a0 G Γ H66 := th_ZN ⟨hR, by rw [mo_v_F (j := 3) (r := 49) hB.1 hB.2.2 h0 rfl ro_49 (by decide) (by decide), mo_v_F (j := 4) (r := 50) hB.1 hB.2.2 h0 rfl ro_50 (by decide) (by decide)]; exact ⟨mo_kg_ext (fun i a9 b9 => by rw [vv_H66_2, g33_2 i a9, if_pos (by omega)]) (hR0.2.2.1 p1.toInt (by omega) (by omega) hs1), hR0.2.2.1⟩⟩ z66_0
            exact th_iret hC hH hr hlocks rfl hB.2.1 ⟨_, rfl, by intros; omega, by intros; omega, by intros; omega, hB.1, hB.2.2, hR⟩ dX12_back_69
          · refine lv_aload_n hx hb dX12_back_40 rfl (lv_at hl 0 rfl) ?_
            refine th_getO (j := 2) (r2 := 48) hC cf_X12 hB.1 h0 ro_46 rfl rfl kf_X12_28 dX12_back_41 (fun b5 mb5 hb5 => ?_)
            have sb5 := (th_F_o hB.2.2 h0 ro_46 (j := 2) (by decide) (by decide)).symm.trans mb5
            refine lv_iload_n hx hb dX12_back_44 rfl (lv_at hl 2 rfl) ?_
            refine lv_aload_n hx hb dX12_back_45 rfl (lv_at hl 0 rfl) ?_
            refine th_getO (j := 3) (r2 := 49) hC cf_X12 hB.1 h0 ro_46 rfl rfl kf_X12_31 dX12_back_46 (fun b6 mb6 hb6 => ?_)
            have sb6 := (th_F_o hB.2.2 h0 ro_46 (j := 3) (by decide) (by decide)).symm.trans mb6
            refine lv_sipush (v := 5680) hx hb dX12_back_49 (by decide) ?_
            refine lv_iload_n hx hb dX12_back_52 rfl (lv_at hl 1 rfl) ?_
            refine tr_imul hx hb dX12_back_53 tk_5680 (Eq.refl _) (by omega) (by omega) (fun x7 ex7 => ?_)
            refine lv_iload_n hx hb dX12_back_54 rfl (lv_at hl 2 rfl) ?_
            refine tr_iadd hx hb dX12_back_55 (Eq.refl _) (Eq.refl _) (by omega) (by omega) (fun x8 ex8 => ?_)
            refine th_ialdS hC hB.1 hb6 ro_49 rfl (Eq.refl _) (by omega) (by omega) (th_esi1 _) dX12_back_56 (fun x9 mx9 tx9 => ?_)
            have lx9 := ti_lo x9; have ux9 := ti_hi x9
            have vgx9 : mo_v G H0 a0 3 ((5680 * p1.toInt) + j33_2.toInt) = x9.toInt := by rw [← (mo_v_F (r := 49) hB.1 hB.2.2 h0 rfl ro_49 (by decide) (by decide) : mo_v G H33 a0 3 = _)]; rw [show (((5680 * p1.toInt) + j33_2.toInt) : Int) = x8.toInt by omega]; exact mo_vat mb6 mx9 (by omega)
            refine th_iastF hC hB hb5 (Or.inl hb5) ro_48 rfl (by decide) (Eq.refl _) (by omega) (by omega) (by rw [← mo_esi (k := p1.toInt) (i := j33_2.toInt) (by omega) (by omega) (by omega) _ rfl]; have q9 := tx9; rw [show x8.toInt = 5680 * p1.toInt + j33_2.toInt by omega] at q9; exact th_sat_m (th_esi1 _) q9) dX12_back_57 (fun H57 locs hB hf57 hst57 => ?_)
            have hf := hf57
            have mm10 := (th_F_o hf h0 ro_46 (j := 2) (by decide) (by decide)).trans mb5
            have mm11 := (th_F_o hf h0 ro_46 (j := 3) (by decide) (by decide)).trans mb6
            have hR := th_RC_F hB.1 hR hf (th_T_s hb5 ro_48 hst57) (by decide)
            have fv_H57_33 : mo_f G H57 a0 33 = mo_f G H33 a0 33 := mo_f_F hf h0 (by decide) (by decide)
            have vv_H57_3 : mo_v G H57 a0 3 = mo_v G H33 a0 3 := mo_v_F (r := 49) hB.1 hf h0 rfl ro_49 (by decide) (by decide)
            have vv_H57_4 : mo_v G H57 a0 4 = mo_v G H33 a0 4 := mo_v_F (r := 50) hB.1 hf h0 rfl ro_50 (by decide) (by decide)
            have vv_H57_31 : mo_v G H57 a0 31 = mo_v G H33 a0 31 := mo_v_F (r := 61) hB.1 hf h0 rfl ro_61 (by decide) (by decide)
            have vs57 : mo_v G H57 a0 2 = mo_u (mo_v G H33 a0 2) j33_2.toInt x9.toInt := by rw [show (j33_2.toInt : Int) = j33_2.toInt by omega]; exact mo_v_st h0 hb5 (by decide) mb5 hst57 (by omega)
            refine tr_iinc (fun x12 => [(2, .int x12), (0, .ref a0), (1, .int p1)]) hx hb dX12_back_58 hl (k := 2) rfl (Eq.refl _) tk_1 (by omega) (by omega) (by decide) (fun _ => rfl) (fun x12 ls ex12 hl => ?_)
            refine lv_goto (tgt := 33) hx hb dX12_back_61 (by decide) ?_
            exact ih33 H57 locs ls x12 hB hR (lv_sub hl [1, 2, 0] rfl) (by omega) (by omega) (fun z a9 => by rw [vs57]; by_cases q9 : z = j33_2.toInt; rw [mo_us q9, if_pos (by omega), q9, ← vgx9]; rw [mo_un q9, g33_2 z a9]; by_cases q8 : z < j33_2.toInt; rw [if_pos q8, if_pos (by omega)]; rw [if_neg q8, if_neg (by omega)]) (by omega)
      exact lp33 ((2147483648 : Int) - (0)).toNat H0 locs ls 0 hB hR (lv_sub hl [1, 2, 0] rfl) (by decide) (by decide) (fun z a9 => by rw [if_neg (by have w0 := tk_0; omega)]) (by have w0 := tk_0; omega)
    · refine lv_aload_n hx hb dX12_back_24 rfl (lv_at hl 0 rfl) ?_
      refine lv_bipush (v := (-2)) hx hb dX12_back_25 (by decide) ?_
      refine th_call (th_runV (As := [.int (-2)]) (rest := []) hC mf_X12_refuses km_X12_109 im_X12_refuses se_X12_refuses (c_X12_refuses l G Γ H0 hB.1 hR.1 a0 h0 (-2) (by decide) (by decide)) rfl rfl ⟨Nat.le_of_ble_eq_true rfl, Nat.le_of_ble_eq_true rfl⟩ hB.1 h0 ro_46 rfl rfl hl.1 rfl (Nat.le_of_ble_eq_true rfl) dX12_back_27 ⟨Nat.le_refl _, Nat.le_refl _⟩) hB.2.1 (fun v27 H27 locs hp hz hS => ?_)
      have hRD := hR
      obtain ⟨x13, rfl, q27_0, hI1, hf, hR⟩ := hp
      have hR := th_RN_c hR hRD hI1 h0 hf (by decide)
      have hB := th_B_c hB hI1 hS hf (by decide)
      have fv_H27_33 : mo_f G H27 a0 33 = mo_f G H0 a0 33 := mo_f_F hf h0 (by decide) (by decide)
      have vv_H27_2 : mo_v G H27 a0 2 = mo_v G H0 a0 2 := mo_v_F (r := 48) hB.1 hf h0 rfl ro_48 (by decide) (by decide)
      have vv_H27_3 : mo_v G H27 a0 3 = mo_v G H0 a0 3 := mo_v_F (r := 49) hB.1 hf h0 rfl ro_49 (by decide) (by decide)
      have vv_H27_4 : mo_v G H27 a0 4 = mo_v G H0 a0 4 := mo_v_F (r := 50) hB.1 hf h0 rfl ro_50 (by decide) (by decide)
      have vv_H27_31 : mo_v G H27 a0 31 = mo_v G H0 a0 31 := mo_v_F (r := 61) hB.1 hf h0 rfl ro_61 (by decide) (by decide)
      have w27_0 := tk_m2
      refine W.eq (g2 := F0 m 30 ls [.int x13]) rfl ?_
      exact th_iret hC hH hr hlocks rfl hB.2.1 ⟨_, rfl, by intros; omega, by intros; omega, by intros; omega, hB.1, hB.2.2, hR⟩ dX12_back_30
  · refine lv_aload_n hx hb dX12_back_9 rfl (lv_at hl 0 rfl) ?_
    refine lv_iconst (v := (-1)) hx hb dX12_back_10 (by decide) ?_
    refine th_call (th_runV (As := [.int (-1)]) (rest := []) hC mf_X12_refuses km_X12_109 im_X12_refuses se_X12_refuses (c_X12_refuses l G Γ H0 hB.1 hR.1 a0 h0 (-1) (by decide) (by decide)) rfl rfl ⟨Nat.le_of_ble_eq_true rfl, Nat.le_of_ble_eq_true rfl⟩ hB.1 h0 ro_46 rfl rfl hl.1 rfl (Nat.le_of_ble_eq_true rfl) dX12_back_11 ⟨Nat.le_refl _, Nat.le_refl _⟩) hB.2.1 (fun v11 H11 locs hp hz hS => ?_)
    have hRD := hR
    obtain ⟨x14, rfl, q11_0, hI1, hf, hR⟩ := hp
    have hR := th_RN_c hR hRD hI1 h0 hf (by decide)
    have hB := th_B_c hB hI1 hS hf (by decide)
    have fv_H11_33 : mo_f G H11 a0 33 = mo_f G H0 a0 33 := mo_f_F hf h0 (by decide) (by decide)
    have vv_H11_2 : mo_v G H11 a0 2 = mo_v G H0 a0 2 := mo_v_F (r := 48) hB.1 hf h0 rfl ro_48 (by decide) (by decide)
    have vv_H11_3 : mo_v G H11 a0 3 = mo_v G H0 a0 3 := mo_v_F (r := 49) hB.1 hf h0 rfl ro_49 (by decide) (by decide)
    have vv_H11_4 : mo_v G H11 a0 4 = mo_v G H0 a0 4 := mo_v_F (r := 50) hB.1 hf h0 rfl ro_50 (by decide) (by decide)
    have vv_H11_31 : mo_v G H11 a0 31 = mo_v G H0 a0 31 := mo_v_F (r := 61) hB.1 hf h0 rfl ro_61 (by decide) (by decide)
    have w11_0 := tk_m1
    refine W.eq (g2 := F0 m 14 ls [.int x14]) rfl ?_
    exact th_iret hC hH hr hlocks rfl hB.2.1 ⟨_, rfl, by intros; omega, by intros; omega, by intros; omega, hB.1, hB.2.2, hR⟩ dX12_back_14

