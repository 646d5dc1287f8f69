section MO11
variable {G : th_G} {Γ : th_Ga} {H H1 H2 : Heap} {L : List (Nat × Nat)} {a : Nat}
/-- what orders hold on to is the same -/
def mo_sr (G : th_G) (H H1 : Heap) (a : Nat) : Prop := mo_v G H1 a 2 = mo_v G H a 2 ∧ mo_v G H1 a 5 = mo_v G H a 5 ∧ mo_v G H1 a 15 = mo_v G H a 15 ∧ mo_v G H1 a 31 = mo_v G H a 31 ∧ mo_f G H1 a 18 = mo_f G H a 18 ∧ mo_f G H1 a 33 = mo_f G H a 33
theorem mo_sr_rf : mo_sr G H H a := ⟨rfl, rfl, rfl, rfl, rfl, rfl⟩
theorem mo_sr_tr (h : mo_sr G H H1 a) (h1 : mo_sr G H1 H2 a) : mo_sr G H H2 a := ⟨h1.1.trans h.1, h1.2.1.trans h.2.1, h1.2.2.1.trans h.2.2.1, h1.2.2.2.1.trans h.2.2.2.1, h1.2.2.2.2.1.trans h.2.2.2.2.1, h1.2.2.2.2.2.trans h.2.2.2.2.2⟩
theorem mo_sr_F (hI : th_I G Γ H1) (hF : th_F G Γ L H H1) (ha : Γ a = (46, 0)) (hL : (th_in L 46 2 = false ∧ th_in L 48 0 = false) ∧ (th_in L 46 5 = false ∧ th_in L 51 0 = false) ∧ (th_in L 46 15 = false ∧ th_in L 55 0 = false) ∧ (th_in L 46 31 = false ∧ th_in L 61 0 = false) ∧ th_in L 46 18 = false ∧ th_in L 46 33 = false) : mo_sr G H H1 a :=
  ⟨mo_v_F (j := 2) (r := 48) hI hF ha rfl ro_48 hL.1.1 hL.1.2, mo_v_F (j := 5) (r := 51) hI hF ha rfl ro_51 hL.2.1.1 hL.2.1.2, mo_v_F (j := 15) (r := 55) hI hF ha rfl ro_55 hL.2.2.1.1 hL.2.2.1.2, mo_v_F (j := 31) (r := 61) hI hF ha rfl ro_61 hL.2.2.2.1.1 hL.2.2.2.1.2, mo_f_F hF ha (by decide) hL.2.2.2.2.1, mo_f_F hF ha (by decide) hL.2.2.2.2.2⟩
theorem mo_ok_l {k im has l l' : Int → Int} {u : Int} (hk : mo_ok k im has l u) (hu : u ≤ 16) (h : ∀ z, 0 ≤ z → z < 480 → l' z = l z) : mo_ok k im has l' u := by
  refine ⟨hk.1, hk.2.1, fun r r0 r1 => mo_geo_ext (fun i a b => ?_) (hk.2.2 r r0 r1)⟩
  unfold mo_mx
  by_cases w : i < 29
  · rw [if_pos w, if_pos w]
    exact h _ (by omega) (by omega)
  · rw [if_neg w, if_neg w]
theorem mo_ly_0 {k c : Int → Int} {t n i z : Int} (h : z < 73) (ht : 0 ≤ t) : mo_ly k c t n i z = k z := by
  unfold mo_ly
  rw [if_neg (by omega), if_neg (by omega)]
theorem mo_ly_79 {k c : Int → Int} {n i : Int} : mo_ly k c 6 n i 79 = n := by
  unfold mo_ly
  rw [if_pos (by omega)]
end MO11
set_option maxHeartbeats 4000000 in
set_option maxRecDepth 100000 in
theorem c_X12_orders (l : Launch) (G : th_G) (Γ : th_Ga) (H0 : Heap) (hI : th_I G Γ H0) (hU : dv_U Γ) (a0 : Nat) (h0 : Γ a0 = (46, 0)) (hR : th_RN a0 G Γ H0) : Met l yX12_orders (.code yX12_orders cX12_orders 5 (some FieldType.int) :: th_tb) ({ frames := 75, cells := 0, slots := 0, locals := 2247 } : Room) (th_P [.ref a0] G H0) (th_Q (fun (v : Option Value) (H1 : Heap) => ∃ r : Int32, v = some (.int r) ∧ th_I G Γ H1 ∧ th_F G Γ [(47, 0), (46, 0), (46, 19), (46, 20), (46, 21), (46, 18), (57, 0), (56, 0), (55, 0), (46, 13), (46, 14), (46, 8), (46, 9), (46, 10), (46, 22), (46, 24), (46, 23), (46, 25), (46, 49), (46, 50), (46, 51), (46, 52), (69, 0), (48, 0), (61, 0), (46, 33), (58, 0), (59, 0), (60, 0), (46, 28), (46, 27), (46, 48), (46, 47), (51, 0), (62, 0)] H0 H1 ∧ th_RN a0 G Γ H1 ∧ (f_X12_orders (dv G Γ H0) (a0 : Int) = (dv G Γ H1, r.toInt))) G) 0 0 (fun q => G.2.2 ≤ q) := by
  refine th_met RX12 (by decide) rfl (Nat.le_of_ble_eq_true rfl) ?_
  intro p e s m below meth c hC hH hr hlocks hnm ls hl
  have hx := hC.1
  have hb := hC.2.1
  have hB : th_B G Γ Γ [(47, 0), (46, 0), (46, 19), (46, 20), (46, 21), (46, 18), (57, 0), (56, 0), (55, 0), (46, 13), (46, 14), (46, 8), (46, 9), (46, 10), (46, 22), (46, 24), (46, 23), (46, 25), (46, 49), (46, 50), (46, 51), (46, 52), (69, 0), (48, 0), (61, 0), (46, 33), (58, 0), (59, 0), (60, 0), (46, 28), (46, 27), (46, 48), (46, 47), (51, 0), (62, 0)] H0 H0 [] := ⟨hI, va_S.rf, th_F_rf⟩
  have hl : lv_has ls 5 [(0, .ref a0)] := hl
  obtain ⟨F, hF0⟩ : ∃ F, F = f_X12_orders (dv G Γ H0) ((a0 : Int)) := ⟨_, rfl⟩
  have hF := hF0.trans (f_X12_orders.eq_1 (dv G Γ H0) ((a0 : Int)))
  refine lv_aload_n hx hb dX12_orders_0 rfl (lv_at hl 0 rfl) ?_
  refine lv_iconst (v := (-1)) hx hb dX12_orders_1 (by decide) ?_
  refine th_put hC cf_X12 hB h0 (Or.inl h0) ro_46 rfl (j := 47) rfl th_sIa (by decide) rfl rfl rfl kf_X12_97 dX12_orders_2 (fun H2 locs hB hf hst2 => ?_)
  have hR := th_RN_F hB.1 hR h0 hf (th_T_s h0 ro_46 hst2) (by decide)
  have fv_H2_18 : mo_f G H2 a0 18 = mo_f G H0 a0 18 := mo_f_F hf h0 (by decide) (by decide)
  have fv_H2_33 : mo_f G H2 a0 33 = mo_f G H0 a0 33 := mo_f_F hf h0 (by decide) (by decide)
  have fv_H2_48 : mo_f G H2 a0 48 = mo_f G H0 a0 48 := mo_f_F hf h0 (by decide) (by decide)
  have vv_H2_2 : mo_v G H2 a0 2 = mo_v G H0 a0 2 := mo_v_F (r := 48) hB.1 hf h0 rfl ro_48 (by decide) (by decide)
  have vv_H2_3 : mo_v G H2 a0 3 = mo_v G H0 a0 3 := mo_v_F (r := 49) hB.1 hf h0 rfl ro_49 (by decide) (by decide)
  have vv_H2_4 : mo_v G H2 a0 4 = mo_v G H0 a0 4 := mo_v_F (r := 50) hB.1 hf h0 rfl ro_50 (by decide) (by decide)
  have vv_H2_31 : mo_v G H2 a0 31 = mo_v G H0 a0 31 := mo_v_F (r := 61) hB.1 hf h0 rfl ro_61 (by decide) (by decide)
  have vv_H2_5 : mo_v G H2 a0 5 = mo_v G H0 a0 5 := mo_v_F (r := 51) hB.1 hf h0 rfl ro_51 (by decide) (by decide)
  have vv_H2_15 : mo_v G H2 a0 15 = mo_v G H0 a0 15 := mo_v_F (r := 55) hB.1 hf h0 rfl ro_55 (by decide) (by decide)
  have vv_H2_32 : mo_v G H2 a0 32 = mo_v G H0 a0 32 := mo_v_F (r := 62) hB.1 hf h0 rfl ro_62 (by decide) (by decide)
  replace hF := hF.trans (dv_bn (dv_putI hB.1 h0 ro_46 (j := 47) rfl (th_apart hC cf_X12) hst2 tk_m1 (by decide)))
  refine lv_aload_n hx hb dX12_orders_5 rfl (lv_at hl 0 rfl) ?_
  refine lv_iconst (v := 1) hx hb dX12_orders_6 (by decide) ?_
  refine th_call (th_runV (As := [.int 1]) (rest := []) hC mf_X12_readsAs km_X12_268 im_X12_readsAs se_X12_readsAs (c_X12_readsAs l G Γ H2 hB.1 hR.1 hU a0 h0 1 (by decide) (by decide)) rfl rfl ⟨Nat.le_of_ble_eq_true rfl, Nat.le_of_ble_eq_true rfl⟩ hB.1 h0 ro_46 rfl rfl hl.1 rfl (Nat.le_of_ble_eq_true rfl) dX12_orders_7 ⟨Nat.le_refl _, Nat.le_refl _⟩) hB.2.1 (fun v7 H7 locs hp hz hS => ?_)
  have hRD := hR
  obtain ⟨x1, rfl, lx1, ux1, hI1, hf, hR, z7_0, z7_1⟩ := hp
  have hR := th_RN_c hR hRD hI1 h0 hf (by decide)
  have hB := th_B_c hB hI1 hS hf (by decide)
  have fv_H7_33 : mo_f G H7 a0 33 = mo_f G H2 a0 33 := mo_f_F hf h0 (by decide) (by decide)
  have fv_H7_48 : mo_f G H7 a0 48 = mo_f G H2 a0 48 := mo_f_F hf h0 (by decide) (by decide)
  have vv_H7_2 : mo_v G H7 a0 2 = mo_v G H2 a0 2 := mo_v_F (r := 48) hB.1 hf h0 rfl ro_48 (by decide) (by decide)
  have vv_H7_3 : mo_v G H7 a0 3 = mo_v G H2 a0 3 := mo_v_F (r := 49) hB.1 hf h0 rfl ro_49 (by decide) (by decide)
  have vv_H7_4 : mo_v G H7 a0 4 = mo_v G H2 a0 4 := mo_v_F (r := 50) hB.1 hf h0 rfl ro_50 (by decide) (by decide)
  have vv_H7_31 : mo_v G H7 a0 31 = mo_v G H2 a0 31 := mo_v_F (r := 61) hB.1 hf h0 rfl ro_61 (by decide) (by decide)
  have vv_H7_5 : mo_v G H7 a0 5 = mo_v G H2 a0 5 := mo_v_F (r := 51) hB.1 hf h0 rfl ro_51 (by decide) (by decide)
  have vv_H7_32 : mo_v G H7 a0 32 = mo_v G H2 a0 32 := mo_v_F (r := 62) hB.1 hf h0 rfl ro_62 (by decide) (by decide)
  have zf7 := z7_1
  rw [tk_1] at zf7
  replace hF := hF.trans (dv_bn2 (zf7))
  refine W.eq (g2 := F0 m 10 ls [.int x1]) rfl ?_
  refine tr_if_ne (tgt := 20) hx hb dX12_orders_10 (by decide) (Eq.refl _) (fun c10 => ?_) (fun c10 => ?_)
  · replace hF := hF.trans (if_pos c10)
    refine lv_aload_n hx hb dX12_orders_20 rfl (lv_at hl 0 rfl) ?_
    refine lv_iconst (v := 1) hx hb dX12_orders_21 (by decide) ?_
    refine th_call (th_runV (As := [.int 1]) (rest := []) hC mf_X12_laysAside km_X12_477 im_X12_laysAside se_X12_laysAside (c_X12_laysAside l G Γ H7 hB.1 hR.1 hU a0 h0 1 (by decide) (by decide)) rfl rfl ⟨Nat.le_of_ble_eq_true rfl, Nat.le_of_ble_eq_true rfl⟩ hB.1 h0 ro_46 rfl rfl hl.1 rfl (Nat.le_of_ble_eq_true rfl) dX12_orders_22 ⟨Nat.le_refl _, Nat.le_refl _⟩) hB.2.1 (fun v22 H22 locs hp hz hS => ?_)
    have hRD := hR
    obtain ⟨rfl, hI1, hf, hR, z22_0, z22_1⟩ := hp
    have hR := th_RN_c hR hRD hI1 h0 hf (by decide)
    have hB := th_B_c hB hI1 hS hf (by decide)
    have fv_H22_18 : mo_f G H22 a0 18 = mo_f G H7 a0 18 := mo_f_F hf h0 (by decide) (by decide)
    have fv_H22_33 : mo_f G H22 a0 33 = mo_f G H7 a0 33 := mo_f_F hf h0 (by decide) (by decide)
    have fv_H22_48 : mo_f G H22 a0 48 = mo_f G H7 a0 48 := mo_f_F hf h0 (by decide) (by decide)
    have vv_H22_2 : mo_v G H22 a0 2 = mo_v G H7 a0 2 := mo_v_F (r := 48) hB.1 hf h0 rfl ro_48 (by decide) (by decide)
    have vv_H22_3 : mo_v G H22 a0 3 = mo_v G H7 a0 3 := mo_v_F (r := 49) hB.1 hf h0 rfl ro_49 (by decide) (by decide)
    have vv_H22_4 : mo_v G H22 a0 4 = mo_v G H7 a0 4 := mo_v_F (r := 50) hB.1 hf h0 rfl ro_50 (by decide) (by decide)
    have vv_H22_31 : mo_v G H22 a0 31 = mo_v G H7 a0 31 := mo_v_F (r := 61) hB.1 hf h0 rfl ro_61 (by decide) (by decide)
    have vv_H22_15 : mo_v G H22 a0 15 = mo_v G H7 a0 15 := mo_v_F (r := 55) hB.1 hf h0 rfl ro_55 (by decide) (by decide)
    have vv_H22_32 : mo_v G H22 a0 32 = mo_v G H7 a0 32 := mo_v_F (r := 62) hB.1 hf h0 rfl ro_62 (by decide) (by decide)
    have zf22 := z22_1
    rw [tk_1] at zf22
    replace hF := hF.trans (dv_bn2 (zf22))
    refine W.eq (g2 := F0 m 25 ls []) rfl ?_
    refine lv_iconst (v := 0) hx hb dX12_orders_25 (by decide) ?_
    refine lv_istore_n (lv' := [(1, .int 0), (0, .ref a0)]) hx hb dX12_orders_26 rfl hl (by decide) rfl (fun ls hl => ?_)
    have lp27 : ∀ (n27 : Nat) (H27 : Heap) (locs : List Loc) (ls : Array Slot) (j27_1 : Int32), th_B G Γ Γ [(47, 0), (46, 0), (46, 19), (46, 20), (46, 21), (46, 18), (57, 0), (56, 0), (55, 0), (46, 13), (46, 14), (46, 8), (46, 9), (46, 10), (46, 22), (46, 24), (46, 23), (46, 25), (46, 49), (46, 50), (46, 51), (46, 52), (69, 0), (48, 0), (61, 0), (46, 33), (58, 0), (59, 0), (60, 0), (46, 28), (46, 27), (46, 48), (46, 47), (51, 0), (62, 0)] H0 H27 locs → th_RN a0 G Γ H27 → lv_has ls 5 [(0, .ref a0), (1, .int j27_1)] → F = dv_lp f_X12_orders_27b (dv G Γ H27, (a0 : Int), j27_1.toInt) → 0 ≤ j27_1.toInt → j27_1.toInt ≤ 480 → (∀ z : Int, 0 ≤ z → z < j27_1.toInt → mo_v G H27 a0 32 z = mo_v G H22 a0 31 z) → mo_sr G H22 H27 a0 → (2147483648 : Int) - j27_1.toInt ≤ (n27 : Int) → W p l e ({ frames := 75, cells := 0, slots := 0, locals := 2247 } : Room) s m ([.ref a0] : List Value).toArray below meth c H27 locs 0 0 (MQ below (th_Q (fun (v : Option Value) (H1 : Heap) => ∃ r : Int32, v = some (.int r) ∧ th_I G Γ H1 ∧ th_F G Γ [(47, 0), (46, 0), (46, 19), (46, 20), (46, 21), (46, 18), (57, 0), (56, 0), (55, 0), (46, 13), (46, 14), (46, 8), (46, 9), (46, 10), (46, 22), (46, 24), (46, 23), (46, 25), (46, 49), (46, 50), (46, 51), (46, 52), (69, 0), (48, 0), (61, 0), (46, 33), (58, 0), (59, 0), (60, 0), (46, 28), (46, 27), (46, 48), (46, 47), (51, 0), (62, 0)] H0 H1 ∧ th_RN a0 G Γ H1 ∧ (f_X12_orders (dv G Γ H0) (a0 : Int) = (dv G Γ H1, r.toInt))) G) ([.ref a0] : List Value).toArray s 0 0 (fun q => G.2.2 ≤ q)) (F0 m 27 ls []) := by
      intro n27
      induction n27 with
      | zero => intro H27 locs ls j27_1 hB hR hl hF g27_0 g27_1 g27_2 g27_3 hm27; exact absurd hm27 (by have := ti_hi j27_1; omega)
      | succ n27 ih27 =>
        intro H27 locs ls j27_1 hB hR hl hF g27_0 g27_1 g27_2 g27_3 hm27
        have lj27_1 := ti_lo j27_1; have uj27_1 := ti_hi j27_1
        have vw_H27_3 : mo_v G H27 a0 3 = mo_v G H0 a0 3 := mo_v_F (r := 49) hB.1 hB.2.2 h0 rfl ro_49 (by decide) (by decide)
        have vw_H27_4 : mo_v G H27 a0 4 = mo_v G H0 a0 4 := mo_v_F (r := 50) hB.1 hB.2.2 h0 rfl ro_50 (by decide) (by decide)
        have hm27 : (2147483648 : Int) - j27_1.toInt ≤ (n27 : Int) + 1 := by omega
        replace hF := hF.trans (dv_lp_eq)
        replace hF := hF.trans (congrArg (dv_k f_X12_orders_27b) (f_X12_orders_27c.eq_1 (dv G Γ H27) ((a0 : Int)) (j27_1.toInt)))
        refine lv_iload_n hx hb dX12_orders_27 rfl (lv_at hl 1 rfl) ?_
        refine lv_sipush (v := 480) hx hb dX12_orders_28 (by decide) ?_
        refine tr_icmp_ge (tgt := 52) hx hb dX12_orders_31 (by decide) (Eq.refl _) tk_480 (fun c31 => ?_) (fun c31 => ?_)
        · replace hF := hF.trans (congrArg (dv_k f_X12_orders_27b) (if_pos c31))
          refine lv_aload_n hx hb dX12_orders_52 rfl (lv_at hl 0 rfl) ?_
          have hB27 := hB
          refine th_getI (j := 33) hC cf_X12 hB.1 h0 ro_46 rfl rfl kf_X12_11 dX12_orders_53 (fun x2 mx2 lx2 ux2 => ?_)
          replace hF := hF.trans (congrArg (dv_k f_X12_orders_27b) (dv_bn (dv_getI h0 ro_46 (j := 33) rfl mx2 (by decide))))
          have fg3 : mo_f G H27 a0 33 = x2.toInt := mo_fat mx2
          refine lv_istore_n (lv' := [(1, .int x2), (0, .ref a0)]) hx hb dX12_orders_56 rfl hl (by decide) rfl (fun ls hl => ?_)
          refine lv_aload_n hx hb dX12_orders_57 rfl (lv_at hl 1 rfl) ?_
          refine lv_bipush (v := 6) hx hb dX12_orders_58 (by decide) ?_
          refine th_call (th_runV (As := [.int 6]) (rest := []) hC mf_X12_lays km_X12_272 im_X12_lays se_X12_lays (c_X12_lays l G Γ H27 hB.1 hR.1 hU a0 h0 6 (by decide) (by decide)) rfl rfl ⟨Nat.le_of_ble_eq_true rfl, Nat.le_of_ble_eq_true rfl⟩ hB.1 h0 ro_46 rfl rfl hl.1 rfl (Nat.le_of_ble_eq_true rfl) dX12_orders_60 ⟨Nat.le_refl _, Nat.le_refl _⟩) hB.2.1 (fun v60 H60 locs hp hz hS => ?_)
          have hRD := hR
          obtain ⟨rfl, hI1, hf, hR, z60_0, z60_1⟩ := hp
          have hRc60 := hR
          have hR := hRD
          have hRC := hRc60
          have hB := th_B_c hB hI1 hS hf (by decide)
          have fv_H60_18 : mo_f G H60 a0 18 = mo_f G H27 a0 18 := mo_f_F hf h0 (by decide) (by decide)
          have fv_H60_33 : mo_f G H60 a0 33 = mo_f G H27 a0 33 := mo_f_F hf h0 (by decide) (by decide)
          have fv_H60_48 : mo_f G H60 a0 48 = mo_f G H27 a0 48 := mo_f_F hf h0 (by decide) (by decide)
          have vv_H60_3 : mo_v G H60 a0 3 = mo_v G H27 a0 3 := mo_v_F (r := 49) hB.1 hf h0 rfl ro_49 (by decide) (by decide)
          have vv_H60_4 : mo_v G H60 a0 4 = mo_v G H27 a0 4 := mo_v_F (r := 50) hB.1 hf h0 rfl ro_50 (by decide) (by decide)
          have vv_H60_31 : mo_v G H60 a0 31 = mo_v G H27 a0 31 := mo_v_F (r := 61) hB.1 hf h0 rfl ro_61 (by decide) (by decide)
          have vv_H60_5 : mo_v G H60 a0 5 = mo_v G H27 a0 5 := mo_v_F (r := 51) hB.1 hf h0 rfl ro_51 (by decide) (by decide)
          have vv_H60_15 : mo_v G H60 a0 15 = mo_v G H27 a0 15 := mo_v_F (r := 55) hB.1 hf h0 rfl ro_55 (by decide) (by decide)
          have vv_H60_32 : mo_v G H60 a0 32 = mo_v G H27 a0 32 := mo_v_F (r := 62) hB.1 hf h0 rfl ro_62 (by decide) (by decide)
          have zf60 := z60_1
          rw [tk_6] at zf60
          replace hF := hF.trans (congrArg (dv_k f_X12_orders_27b) (dv_bn2 (zf60)))
          refine W.eq (g2 := F0 m 63 ls []) rfl ?_
          have sr27 := g27_3
          have la27 := g27_2
          have n400 := (mo_f_rg hB27.1 h0 (j := 18) rfl)
          obtain ⟨nn, enn⟩ : ∃ n : Int, n = mo_f G H27 a0 18 := ⟨_, rfl⟩
          have ly : ∀ z : Int, z < 2880 → mo_v G H60 a0 2 z = mo_ly (mo_v G H27 a0 2) (mo_v G H27 a0 15) 6 nn nn z := by rw [enn]; exact z60_0
          have hR : th_RN a0 G Γ H60 := ⟨hRC, by rw [vv_H60_3, vv_H60_4, vv_H60_31, fv_H60_33]; exact mo_ok_6 hR.2 (by omega) ly⟩
          have hR60 := hR
          have hB60 := hB
          obtain ⟨T, eT⟩ : ∃ T : Int → Int, T = mo_tf (mo_v G H60 a0 2) 2480 nn := ⟨_, rfl⟩
          have TX : mo_text 1 T nn := by have q9 := z7_0 (by omega); unfold mo_cr at q9; rw [eT, mo_tf_6 (by omega) ly, sr27.2.2.1, vv_H22_15, enn, sr27.2.2.2.2.1, show mo_f G H22 a0 18 = mo_f G H7 a0 18 by omega]; exact q9
          refine lv_aload_n hx hb dX12_orders_63 rfl (lv_at hl 1 rfl) ?_
          refine lv_iconst (v := 0) hx hb dX12_orders_64 (by decide) ?_
          refine th_put hC cf_X12 hB h0 (Or.inl h0) ro_46 rfl (j := 27) rfl th_sIa (by decide) rfl rfl rfl kf_X12_317 dX12_orders_65 (fun H65 locs hB hf hst65 => ?_)
          have hR := th_RN_F hB.1 hR h0 hf (th_T_s h0 ro_46 hst65) (by decide)
          have fv_H65_18 : mo_f G H65 a0 18 = mo_f G H60 a0 18 := mo_f_F hf h0 (by decide) (by decide)
          have fv_H65_33 : mo_f G H65 a0 33 = mo_f G H60 a0 33 := mo_f_F hf h0 (by decide) (by decide)
          have fv_H65_48 : mo_f G H65 a0 48 = mo_f G H60 a0 48 := mo_f_F hf h0 (by decide) (by decide)
          have vv_H65_2 : mo_v G H65 a0 2 = mo_v G H60 a0 2 := mo_v_F (r := 48) hB.1 hf h0 rfl ro_48 (by decide) (by decide)
          have vv_H65_3 : mo_v G H65 a0 3 = mo_v G H60 a0 3 := mo_v_F (r := 49) hB.1 hf h0 rfl ro_49 (by decide) (by decide)
          have vv_H65_4 : mo_v G H65 a0 4 = mo_v G H60 a0 4 := mo_v_F (r := 50) hB.1 hf h0 rfl ro_50 (by decide) (by decide)
          have vv_H65_31 : mo_v G H65 a0 31 = mo_v G H60 a0 31 := mo_v_F (r := 61) hB.1 hf h0 rfl ro_61 (by decide) (by decide)
          have vv_H65_5 : mo_v G H65 a0 5 = mo_v G H60 a0 5 := mo_v_F (r := 51) hB.1 hf h0 rfl ro_51 (by decide) (by decide)
          have vv_H65_15 : mo_v G H65 a0 15 = mo_v G H60 a0 15 := mo_v_F (r := 55) hB.1 hf h0 rfl ro_55 (by decide) (by decide)
          have vv_H65_32 : mo_v G H65 a0 32 = mo_v G H60 a0 32 := mo_v_F (r := 62) hB.1 hf h0 rfl ro_62 (by decide) (by decide)
          replace hF := hF.trans (congrArg (dv_k f_X12_orders_27b) (dv_bn (dv_putI hB.1 h0 ro_46 (j := 27) rfl (th_apart hC cf_X12) hst65 tk_0 (by decide))))
          have mm4 := hst65.2.1
          refine lv_aload_n hx hb dX12_orders_68 rfl (lv_at hl 1 rfl) ?_
          refine lv_iconst (v := (-1)) hx hb dX12_orders_69 (by decide) ?_
          refine th_put hC cf_X12 hB h0 (Or.inl h0) ro_46 rfl (j := 28) rfl th_sIa (by decide) rfl rfl rfl kf_X12_320 dX12_orders_70 (fun H70 locs hB hf hst70 => ?_)
          have mm5 := (th_F_o hf h0 ro_46 (j := 27) (by decide) (by decide)).trans mm4
          have hR := th_RN_F hB.1 hR h0 hf (th_T_s h0 ro_46 hst70) (by decide)
          have fv_H70_18 : mo_f G H70 a0 18 = mo_f G H65 a0 18 := mo_f_F hf h0 (by decide) (by decide)
          have fv_H70_33 : mo_f G H70 a0 33 = mo_f G H65 a0 33 := mo_f_F hf h0 (by decide) (by decide)
          have fv_H70_48 : mo_f G H70 a0 48 = mo_f G H65 a0 48 := mo_f_F hf h0 (by decide) (by decide)
          have vv_H70_2 : mo_v G H70 a0 2 = mo_v G H65 a0 2 := mo_v_F (r := 48) hB.1 hf h0 rfl ro_48 (by decide) (by decide)
          have vv_H70_3 : mo_v G H70 a0 3 = mo_v G H65 a0 3 := mo_v_F (r := 49) hB.1 hf h0 rfl ro_49 (by decide) (by decide)
          have vv_H70_4 : mo_v G H70 a0 4 = mo_v G H65 a0 4 := mo_v_F (r := 50) hB.1 hf h0 rfl ro_50 (by decide) (by decide)
          have vv_H70_31 : mo_v G H70 a0 31 = mo_v G H65 a0 31 := mo_v_F (r := 61) hB.1 hf h0 rfl ro_61 (by decide) (by decide)
          have vv_H70_5 : mo_v G H70 a0 5 = mo_v G H65 a0 5 := mo_v_F (r := 51) hB.1 hf h0 rfl ro_51 (by decide) (by decide)
          have vv_H70_15 : mo_v G H70 a0 15 = mo_v G H65 a0 15 := mo_v_F (r := 55) hB.1 hf h0 rfl ro_55 (by decide) (by decide)
          have vv_H70_32 : mo_v G H70 a0 32 = mo_v G H65 a0 32 := mo_v_F (r := 62) hB.1 hf h0 rfl ro_62 (by decide) (by decide)
          replace hF := hF.trans (congrArg (dv_k f_X12_orders_27b) (dv_bn (dv_putI hB.1 h0 ro_46 (j := 28) rfl (th_apart hC cf_X12) hst70 tk_m1 (by decide))))
          refine lv_aload_n hx hb dX12_orders_73 rfl (lv_at hl 1 rfl) ?_
          refine lv_sipush (v := 2400) hx hb dX12_orders_74 (by decide) ?_
          refine th_put hC cf_X12 hB h0 (Or.inl h0) ro_46 rfl (j := 48) rfl th_sIa (by decide) rfl rfl rfl kf_X12_480 dX12_orders_77 (fun H77 locs hB hf hst77 => ?_)
          have mm6 := (th_F_o hf h0 ro_46 (j := 27) (by decide) (by decide)).trans mm5
          have hR := th_RN_F hB.1 hR h0 hf (th_T_s h0 ro_46 hst77) (by decide)
          have fv_H77_18 : mo_f G H77 a0 18 = mo_f G H70 a0 18 := mo_f_F hf h0 (by decide) (by decide)
          have fv_H77_33 : mo_f G H77 a0 33 = mo_f G H70 a0 33 := mo_f_F hf h0 (by decide) (by decide)
          have vv_H77_2 : mo_v G H77 a0 2 = mo_v G H70 a0 2 := mo_v_F (r := 48) hB.1 hf h0 rfl ro_48 (by decide) (by decide)
          have vv_H77_3 : mo_v G H77 a0 3 = mo_v G H70 a0 3 := mo_v_F (r := 49) hB.1 hf h0 rfl ro_49 (by decide) (by decide)
          have vv_H77_4 : mo_v G H77 a0 4 = mo_v G H70 a0 4 := mo_v_F (r := 50) hB.1 hf h0 rfl ro_50 (by decide) (by decide)
          have vv_H77_31 : mo_v G H77 a0 31 = mo_v G H70 a0 31 := mo_v_F (r := 61) hB.1 hf h0 rfl ro_61 (by decide) (by decide)
          have vv_H77_5 : mo_v G H77 a0 5 = mo_v G H70 a0 5 := mo_v_F (r := 51) hB.1 hf h0 rfl ro_51 (by decide) (by decide)
          have vv_H77_15 : mo_v G H77 a0 15 = mo_v G H70 a0 15 := mo_v_F (r := 55) hB.1 hf h0 rfl ro_55 (by decide) (by decide)
          have vv_H77_32 : mo_v G H77 a0 32 = mo_v G H70 a0 32 := mo_v_F (r := 62) hB.1 hf h0 rfl ro_62 (by decide) (by decide)
          replace hF := hF.trans (congrArg (dv_k f_X12_orders_27b) (dv_bn (dv_putI hB.1 h0 ro_46 (j := 48) rfl (th_apart hC cf_X12) hst77 tk_2400 (by decide))))
          have fp77 : mo_f G H77 a0 48 = 2400 := (mo_f_St hst77).trans tk_2400
          have mm7 := hst77.2.1
          refine lv_aload_n hx hb dX12_orders_80 rfl (lv_at hl 1 rfl) ?_
          refine th_getK hC cf_X12 hB.1 h0 ro_46 rfl (j := 48) (by decide) mm7 kf_X12_480 dX12_orders_81 ?_
          replace hF := hF.trans (congrArg (dv_k f_X12_orders_27b) (dv_bn ((dv_getI h0 ro_46 (j := 48) rfl mm7 (by decide)).trans tk_2400)))
          have fg8 : mo_f G H77 a0 48 = 2400 := (mo_fat mm7).trans tk_2400
          refine lv_aload_n hx hb dX12_orders_84 rfl (lv_at hl 1 rfl) ?_
          refine th_getO (j := 2) (r2 := 48) hC cf_X12 hB.1 h0 ro_46 rfl rfl kf_X12_28 dX12_orders_85 (fun b9 mb9 hb9 => ?_)
          refine lv_bipush (v := 79) hx hb dX12_orders_88 (by decide) ?_
          refine th_ialdF hC hB.1 hb9 ro_48 rfl tk_79 (by omega) (by omega) (ek_size (by omega) (by omega)) dX12_orders_90 (fun x10 mx10 lx10 ux10 => ?_)
          replace hF := hF.trans (congrArg (dv_k f_X12_orders_27b) (dv_bn (dv_aldI hB.1 hU hb9 ow_48 (z := 79) mx10 (by omega))))
          have vgx10 : mo_v G H77 a0 2 79 = x10.toInt := by rw [show (79 : Int) = 79 by omega]; exact mo_vat mb9 mx10 (by omega)
          have e90 : x10.toInt = nn := by rw [← vgx10, vv_H77_2, vv_H70_2, vv_H65_2, ly 79 (by omega), mo_ly_79]
          refine tr_iadd hx hb dX12_orders_91 tk_2400 (Eq.refl _) (by omega) (by omega) (fun x11 ex11 => ?_)
          replace hF := hF.trans (congrArg (dv_k f_X12_orders_27b) (dv_bn (ex11.symm)))
          refine lv_istore_n (lv' := [(2, .int x11), (1, .int x2), (0, .ref a0)]) hx hb dX12_orders_92 rfl hl (by decide) rfl (fun ls hl => ?_)
          refine lv_iconst (v := 0) hx hb dX12_orders_93 (by decide) ?_
          refine lv_istore_n (lv' := [(3, .int 0), (2, .int x11), (1, .int x2), (0, .ref a0)]) hx hb dX12_orders_94 rfl hl (by decide) rfl (fun ls hl => ?_)
          have lp95 : ∀ (n95 : Nat) (H95 : Heap) (locs : List Loc) (ls : Array Slot) (j95_3 : Int32), th_B G Γ Γ [(47, 0), (46, 0), (46, 19), (46, 20), (46, 21), (46, 18), (57, 0), (56, 0), (55, 0), (46, 13), (46, 14), (46, 8), (46, 9), (46, 10), (46, 22), (46, 24), (46, 23), (46, 25), (46, 49), (46, 50), (46, 51), (46, 52), (69, 0), (48, 0), (61, 0), (46, 33), (58, 0), (59, 0), (60, 0), (46, 28), (46, 27), (46, 48), (46, 47), (51, 0), (62, 0)] H0 H95 locs → th_RN a0 G Γ H95 → lv_has ls 5 [(2, .int x11), (1, .int x2), (0, .ref a0), (3, .int j95_3)] → F = dv_k f_X12_orders_27b (dv_lp f_X12_orders_95b (dv G Γ H95, x11.toInt, x2.toInt, (a0 : Int), j95_3.toInt)) → (∃ i : Int, mo_f G H95 a0 48 = 2400 + i ∧ 0 ≤ i ∧ (i = nn + 1 ∨ mo_chain T (mo_clause 1 T) (mo_is 159) i nn)) → (∀ z : Int, 29 ≤ z → mo_v G H95 a0 2 z = mo_v G H60 a0 2 z) → mo_v G H95 a0 5 = mo_v G H60 a0 5 → mo_v G H95 a0 32 = mo_v G H60 a0 32 → (2400 + nn + 3 - mo_f G H95 a0 48) ≤ (n95 : Int) → W p l e ({ frames := 75, cells := 0, slots := 0, locals := 2247 } : Room) s m ([.ref a0] : List Value).toArray below meth c H95 locs 0 0 (MQ below (th_Q (fun (v : Option Value) (H1 : Heap) => ∃ r : Int32, v = some (.int r) ∧ th_I G Γ H1 ∧ th_F G Γ [(47, 0), (46, 0), (46, 19), (46, 20), (46, 21), (46, 18), (57, 0), (56, 0), (55, 0), (46, 13), (46, 14), (46, 8), (46, 9), (46, 10), (46, 22), (46, 24), (46, 23), (46, 25), (46, 49), (46, 50), (46, 51), (46, 52), (69, 0), (48, 0), (61, 0), (46, 33), (58, 0), (59, 0), (60, 0), (46, 28), (46, 27), (46, 48), (46, 47), (51, 0), (62, 0)] H0 H1 ∧ th_RN a0 G Γ H1 ∧ (f_X12_orders (dv G Γ H0) (a0 : Int) = (dv G Γ H1, r.toInt))) G) ([.ref a0] : List Value).toArray s 0 0 (fun q => G.2.2 ≤ q)) (F0 m 95 ls []) := by
            intro n95
            induction n95 with
            | zero => intro H95 locs ls j95_3 hB hR hl hF g95_0 g95_1 g95_2 g95_3 hm95; exact absurd hm95 (by have := mo_lpt (mo_clause_lt _ _) g95_0; omega)
            | succ n95 ih95 =>
              intro H95 locs ls j95_3 hB hR hl hF g95_0 g95_1 g95_2 g95_3 hm95
              have lj95_3 := ti_lo j95_3; have uj95_3 := ti_hi j95_3
              have vw_H95_3 : mo_v G H95 a0 3 = mo_v G H0 a0 3 := mo_v_F (r := 49) hB.1 hB.2.2 h0 rfl ro_49 (by decide) (by decide)
              have vw_H95_4 : mo_v G H95 a0 4 = mo_v G H0 a0 4 := mo_v_F (r := 50) hB.1 hB.2.2 h0 rfl ro_50 (by decide) (by decide)
              have hm95 : (2400 + nn + 3 - mo_f G H95 a0 48) ≤ (n95 : Int) + 1 := by omega
              replace hF := hF.trans (congrArg (dv_k f_X12_orders_27b) (dv_lp_eq))
              replace hF := hF.trans (congrArg (dv_k f_X12_orders_27b) (congrArg (dv_k f_X12_orders_95b) (f_X12_orders_95c.eq_1 (dv G Γ H95) (x11.toInt) (x2.toInt) ((a0 : Int)) (j95_3.toInt))))
              refine lv_aload_n hx hb dX12_orders_95 rfl (lv_at hl 2 rfl) ?_
              obtain ⟨m6, a6, b6, r6⟩ := g95_0
              have B95 := g95_1
              have C95 := g95_2
              have D95 := g95_3
              refine th_getI (j := 48) hC cf_X12 hB.1 h0 ro_46 rfl rfl kf_X12_480 dX12_orders_96 (fun x12 mx12 lx12 ux12 => ?_)
              replace hF := hF.trans (congrArg (dv_k f_X12_orders_27b) (congrArg (dv_k f_X12_orders_95b) (dv_bn (dv_getI h0 ro_46 (j := 48) rfl mx12 (by decide)))))
              have fg13 : mo_f G H95 a0 48 = x12.toInt := mo_fat mx12
              refine lv_iload_n hx hb dX12_orders_99 rfl (lv_at hl 0 rfl) ?_
              refine tr_icmp_ge (tgt := 173) hx hb dX12_orders_100 (by decide) (Eq.refl _) (Eq.refl _) (fun c100 => ?_) (fun c100 => ?_)
              · replace hF := hF.trans (congrArg (dv_k f_X12_orders_27b) (congrArg (dv_k f_X12_orders_95b) (if_pos c100)))
                refine lv_aload_n hx hb dX12_orders_173 rfl (lv_at hl 2 rfl) ?_
                refine lv_aload_n hx hb dX12_orders_174 rfl (lv_at hl 2 rfl) ?_
                refine th_getI (j := 27) hC cf_X12 hB.1 h0 ro_46 rfl rfl kf_X12_317 dX12_orders_175 (fun x14 mx14 lx14 ux14 => ?_)
                replace hF := hF.trans (congrArg (dv_k f_X12_orders_27b) (congrArg (dv_k f_X12_orders_95b) (dv_bn (dv_getI h0 ro_46 (j := 27) rfl mx14 (by decide)))))
                refine th_call (th_runV (As := [.int x14]) (rest := []) hC mf_X12_good km_X12_14 im_X12_good se_X12_good (c_X12_good l G Γ H95 hB.1 hR.1 hU a0 h0 x14) rfl rfl ⟨Nat.le_of_ble_eq_true rfl, Nat.le_of_ble_eq_true rfl⟩ hB.1 h0 ro_46 rfl rfl hl.1 rfl (Nat.le_of_ble_eq_true rfl) dX12_orders_178 ⟨Nat.le_refl _, Nat.le_refl _⟩) hB.2.1 (fun v178 H178 locs hp hz hS => ?_)
                have hRD := hR
                obtain ⟨x15, rfl, q178_0, hI1, hf, hR, z178_0⟩ := hp
                have hR := th_RN_c hR hRD hI1 h0 hf (by decide)
                have hB := th_B_c hB hI1 hS hf (by decide)
                have mm16 := (th_F_o hf h0 ro_46 (j := 48) (by decide) (by decide)).trans mx12
                have fv_H178_18 : mo_f G H178 a0 18 = mo_f G H95 a0 18 := mo_f_F hf h0 (by decide) (by decide)
                have fv_H178_33 : mo_f G H178 a0 33 = mo_f G H95 a0 33 := mo_f_F hf h0 (by decide) (by decide)
                have fv_H178_48 : mo_f G H178 a0 48 = mo_f G H95 a0 48 := mo_f_F hf h0 (by decide) (by decide)
                have vv_H178_2 : mo_v G H178 a0 2 = mo_v G H95 a0 2 := mo_v_F (r := 48) hB.1 hf h0 rfl ro_48 (by decide) (by decide)
                have vv_H178_3 : mo_v G H178 a0 3 = mo_v G H95 a0 3 := mo_v_F (r := 49) hB.1 hf h0 rfl ro_49 (by decide) (by decide)
                have vv_H178_4 : mo_v G H178 a0 4 = mo_v G H95 a0 4 := mo_v_F (r := 50) hB.1 hf h0 rfl ro_50 (by decide) (by decide)
                have vv_H178_31 : mo_v G H178 a0 31 = mo_v G H95 a0 31 := mo_v_F (r := 61) hB.1 hf h0 rfl ro_61 (by decide) (by decide)
                have vv_H178_5 : mo_v G H178 a0 5 = mo_v G H95 a0 5 := mo_v_F (r := 51) hB.1 hf h0 rfl ro_51 (by decide) (by decide)
                have vv_H178_15 : mo_v G H178 a0 15 = mo_v G H95 a0 15 := mo_v_F (r := 55) hB.1 hf h0 rfl ro_55 (by decide) (by decide)
                have vv_H178_32 : mo_v G H178 a0 32 = mo_v G H95 a0 32 := mo_v_F (r := 62) hB.1 hf h0 rfl ro_62 (by decide) (by decide)
                replace hF := hF.trans (congrArg (dv_k f_X12_orders_27b) (congrArg (dv_k f_X12_orders_95b) (dv_bn2 (z178_0))))
                refine W.eq (g2 := F0 m 181 ls [.int x15]) rfl ?_
                replace hF := hF.trans (congrArg (dv_k f_X12_orders_27b) (dv_kr))
                replace hF := hF.trans (dv_kr)
                exact th_iret hC hH hr hlocks rfl hB.2.1 ⟨_, rfl, hB.1, hB.2.2, hR, (hF0.symm.trans hF)⟩ dX12_orders_181
              · replace hF := hF.trans (congrArg (dv_k f_X12_orders_27b) (congrArg (dv_k f_X12_orders_95b) (if_neg (Int.not_le.mpr c100))))
                refine lv_aload_n hx hb dX12_orders_103 rfl (lv_at hl 2 rfl) ?_
                refine lv_iload_n hx hb dX12_orders_104 rfl (lv_at hl 0 rfl) ?_
                have ch6 := r6.resolve_left (by omega)
                obtain ⟨j1, c1, r1⟩ := mo_chain_open ch6
                have lt1 := mo_clause_lt _ _ _ _ c1
                have le1 := mo_rest_le (mo_clause_lt _ _) r1
                have od : mo_ord T m6 j1 := by rcases c1 with ⟨q9, -⟩ | ⟨-, c1⟩; exact absurd q9 (by decide); exact c1
                refine th_call (th_runV (As := [.int x11]) (rest := []) hC mf_X12_runs km_X12_483 im_X12_runs se_X12_runs (c_X12_runs l G Γ H95 hB.1 hU a0 h0 hR x11 (by omega) (by omega) m6 j1 (by omega) ⟨by omega, by omega⟩ (by rw [mo_tf_29 B95 (by omega), show x11.toInt - 2400 = nn by omega, ← eT]; exact od)) rfl rfl ⟨Nat.le_of_ble_eq_true rfl, Nat.le_of_ble_eq_true rfl⟩ hB.1 h0 ro_46 rfl rfl hl.1 rfl (Nat.le_of_ble_eq_true rfl) dX12_orders_105 ⟨Nat.le_refl _, Nat.le_refl _⟩) hB.2.1 (fun v105 H105 locs hp hz hS => ?_)
                obtain ⟨x17, rfl, lx17, ux17, hI1, hf, hR, z105_0, z105_1, z105_2⟩ := hp
                have hB := th_B_c hB hI1 hS hf (by decide)
                have fv_H105_18 : mo_f G H105 a0 18 = mo_f G H95 a0 18 := mo_f_F hf h0 (by decide) (by decide)
                have vv_H105_3 : mo_v G H105 a0 3 = mo_v G H95 a0 3 := mo_v_F (r := 49) hB.1 hf h0 rfl ro_49 (by decide) (by decide)
                have vv_H105_4 : mo_v G H105 a0 4 = mo_v G H95 a0 4 := mo_v_F (r := 50) hB.1 hf h0 rfl ro_50 (by decide) (by decide)
                have vv_H105_5 : mo_v G H105 a0 5 = mo_v G H95 a0 5 := mo_v_F (r := 51) hB.1 hf h0 rfl ro_51 (by decide) (by decide)
                have vv_H105_15 : mo_v G H105 a0 15 = mo_v G H95 a0 15 := mo_v_F (r := 55) hB.1 hf h0 rfl ro_55 (by decide) (by decide)
                have vv_H105_32 : mo_v G H105 a0 32 = mo_v G H95 a0 32 := mo_v_F (r := 62) hB.1 hf h0 rfl ro_62 (by decide) (by decide)
                replace hF := hF.trans (congrArg (dv_k f_X12_orders_27b) (congrArg (dv_k f_X12_orders_95b) (dv_bn2 (z105_2))))
                refine W.eq (g2 := F0 m 108 ls [.int x17]) rfl ?_
                refine tr_if_eq (tgt := 114) hx hb dX12_orders_108 (by decide) (Eq.refl _) (fun c108 => ?_) (fun c108 => ?_)
                · replace hF := hF.trans (congrArg (dv_k f_X12_orders_27b) (congrArg (dv_k f_X12_orders_95b) (if_pos c108)))
                  refine lv_aload_n hx hb dX12_orders_114 rfl (lv_at hl 2 rfl) ?_
                  refine lv_iconst (v := 1) hx hb dX12_orders_115 (by decide) ?_
                  refine th_call (th_runV (As := [.int 1]) (rest := []) hC mf_X12_takesBack km_X12_486 im_X12_takesBack se_X12_takesBack (c_X12_takesBack l G Γ H105 hB.1 hU a0 h0 (th_NE hR) 1 (by decide) (by decide)) rfl rfl ⟨Nat.le_of_ble_eq_true rfl, Nat.le_of_ble_eq_true rfl⟩ hB.1 h0 ro_46 rfl rfl hl.1 rfl (Nat.le_of_ble_eq_true rfl) dX12_orders_116 ⟨Nat.le_refl _, Nat.le_refl _⟩) hB.2.1 (fun v116 H116 locs hp hz hS => ?_)
                  have hRD := hR
                  obtain ⟨rfl, hI1, hf, hR, z116_0, z116_1⟩ := hp
                  have hRc116 := hR
                  have hR := hRD
                  have hRC := hRc116.1
                  have hB := th_B_c hB hI1 hS hf (by decide)
                  have fv_H116_18 : mo_f G H116 a0 18 = mo_f G H105 a0 18 := mo_f_F hf h0 (by decide) (by decide)
                  have fv_H116_33 : mo_f G H116 a0 33 = mo_f G H105 a0 33 := mo_f_F hf h0 (by decide) (by decide)
                  have fv_H116_48 : mo_f G H116 a0 48 = mo_f G H105 a0 48 := mo_f_F hf h0 (by decide) (by decide)
                  have vv_H116_3 : mo_v G H116 a0 3 = mo_v G H105 a0 3 := mo_v_F (r := 49) hB.1 hf h0 rfl ro_49 (by decide) (by decide)
                  have vv_H116_4 : mo_v G H116 a0 4 = mo_v G H105 a0 4 := mo_v_F (r := 50) hB.1 hf h0 rfl ro_50 (by decide) (by decide)
                  have vv_H116_31 : mo_v G H116 a0 31 = mo_v G H105 a0 31 := mo_v_F (r := 61) hB.1 hf h0 rfl ro_61 (by decide) (by decide)
                  have vv_H116_5 : mo_v G H116 a0 5 = mo_v G H105 a0 5 := mo_v_F (r := 51) hB.1 hf h0 rfl ro_51 (by decide) (by decide)
                  have vv_H116_15 : mo_v G H116 a0 15 = mo_v G H105 a0 15 := mo_v_F (r := 55) hB.1 hf h0 rfl ro_55 (by decide) (by decide)
                  have vv_H116_32 : mo_v G H116 a0 32 = mo_v G H105 a0 32 := mo_v_F (r := 62) hB.1 hf h0 rfl ro_62 (by decide) (by decide)
                  have zf116 := z116_1
                  rw [tk_1] at zf116
                  replace hF := hF.trans (congrArg (dv_k f_X12_orders_27b) (congrArg (dv_k f_X12_orders_95b) (dv_bn2 (zf116))))
                  refine W.eq (g2 := F0 m 119 ls []) rfl ?_
                  have hR := hRc116
                  refine lv_iconst (v := 0) hx hb dX12_orders_119 (by decide) ?_
                  refine lv_istore (lv' := [(4, .int 0), (2, .int x11), (1, .int x2), (0, .ref a0), (3, .int j95_3)]) hx hb dX12_orders_120 hl (by decide) rfl (fun ls hl => ?_)
                  have lp122 : ∀ (n122 : Nat) (H122 : Heap) (locs : List Loc) (ls : Array Slot) (j122_4 : Int32), th_B G Γ Γ [(47, 0), (46, 0), (46, 19), (46, 20), (46, 21), (46, 18), (57, 0), (56, 0), (55, 0), (46, 13), (46, 14), (46, 8), (46, 9), (46, 10), (46, 22), (46, 24), (46, 23), (46, 25), (46, 49), (46, 50), (46, 51), (46, 52), (69, 0), (48, 0), (61, 0), (46, 33), (58, 0), (59, 0), (60, 0), (46, 28), (46, 27), (46, 48), (46, 47), (51, 0), (62, 0)] H0 H122 locs → th_RE a0 G Γ H122 → lv_has ls 5 [(1, .int x2), (0, .ref a0), (3, .int j95_3), (4, .int j122_4)] → F = dv_k f_X12_orders_27b (dv_k f_X12_orders_95b (dv_lp f_X12_orders_122b (dv G Γ H122, x2.toInt, (a0 : Int), j95_3.toInt, j122_4.toInt))) → 0 ≤ j122_4.toInt → j122_4.toInt ≤ 480 → (∀ z : Int, 0 ≤ z → z < j122_4.toInt → mo_v G H122 a0 31 z = mo_v G H60 a0 32 z) → mo_v G H122 a0 2 = mo_v G H116 a0 2 → mo_v G H122 a0 32 = mo_v G H60 a0 32 → (2147483648 : Int) - j122_4.toInt ≤ (n122 : Int) → W p l e ({ frames := 75, cells := 0, slots := 0, locals := 2247 } : Room) s m ([.ref a0] : List Value).toArray below meth c H122 locs 0 0 (MQ below (th_Q (fun (v : Option Value) (H1 : Heap) => ∃ r : Int32, v = some (.int r) ∧ th_I G Γ H1 ∧ th_F G Γ [(47, 0), (46, 0), (46, 19), (46, 20), (46, 21), (46, 18), (57, 0), (56, 0), (55, 0), (46, 13), (46, 14), (46, 8), (46, 9), (46, 10), (46, 22), (46, 24), (46, 23), (46, 25), (46, 49), (46, 50), (46, 51), (46, 52), (69, 0), (48, 0), (61, 0), (46, 33), (58, 0), (59, 0), (60, 0), (46, 28), (46, 27), (46, 48), (46, 47), (51, 0), (62, 0)] H0 H1 ∧ th_RN a0 G Γ H1 ∧ (f_X12_orders (dv G Γ H0) (a0 : Int) = (dv G Γ H1, r.toInt))) G) ([.ref a0] : List Value).toArray s 0 0 (fun q => G.2.2 ≤ q)) (F0 m 122 ls []) := by
                    intro n122
                    induction n122 with
                    | zero => intro H122 locs ls j122_4 hB hR hl hF g122_0 g122_1 g122_2 g122_3 g122_4 hm122; exact absurd hm122 (by have := ti_hi j122_4; omega)
                    | succ n122 ih122 =>
                      intro H122 locs ls j122_4 hB hR hl hF g122_0 g122_1 g122_2 g122_3 g122_4 hm122
                      have lj122_4 := ti_lo j122_4; have uj122_4 := ti_hi j122_4
                      have vw_H122_3 : mo_v G H122 a0 3 = mo_v G H0 a0 3 := mo_v_F (r := 49) hB.1 hB.2.2 h0 rfl ro_49 (by decide) (by decide)
                      have vw_H122_4 : mo_v G H122 a0 4 = mo_v G H0 a0 4 := mo_v_F (r := 50) hB.1 hB.2.2 h0 rfl ro_50 (by decide) (by decide)
                      have hm122 : (2147483648 : Int) - j122_4.toInt ≤ (n122 : Int) + 1 := by omega
                      replace hF := hF.trans (congrArg (dv_k f_X12_orders_27b) (congrArg (dv_k f_X12_orders_95b) (dv_lp_eq)))
                      replace hF := hF.trans (congrArg (dv_k f_X12_orders_27b) (congrArg (dv_k f_X12_orders_95b) (congrArg (dv_k f_X12_orders_122b) (f_X12_orders_122c.eq_1 (dv G Γ H122) (x2.toInt) ((a0 : Int)) (j95_3.toInt) (j122_4.toInt)))))
                      refine lv_iload hx hb dX12_orders_122 (lv_at hl 3 rfl) ?_
                      refine lv_sipush (v := 480) hx hb dX12_orders_124 (by decide) ?_
                      refine tr_icmp_ge (tgt := 150) hx hb dX12_orders_127 (by decide) (Eq.refl _) tk_480 (fun c127 => ?_) (fun c127 => ?_)
                      · replace hF := hF.trans (congrArg (dv_k f_X12_orders_27b) (congrArg (dv_k f_X12_orders_95b) (congrArg (dv_k f_X12_orders_122b) (if_pos c127))))
                        refine lv_aload_n hx hb dX12_orders_150 rfl (lv_at hl 1 rfl) ?_
                        refine lv_iload_n hx hb dX12_orders_151 rfl (lv_at hl 0 rfl) ?_
                        refine th_put hC cf_X12 hB h0 (Or.inl h0) ro_46 rfl (j := 33) rfl (th_sI (by omega) (by omega)) (by decide) rfl rfl rfl kf_X12_11 dX12_orders_152 (fun H152 locs hB hf hst152 => ?_)
                        have hR := th_RE_F hB.1 hR h0 hf (th_T_s h0 ro_46 hst152) (by decide)
                        have fv_H152_18 : mo_f G H152 a0 18 = mo_f G H122 a0 18 := mo_f_F hf h0 (by decide) (by decide)
                        have fv_H152_48 : mo_f G H152 a0 48 = mo_f G H122 a0 48 := mo_f_F hf h0 (by decide) (by decide)
                        have vv_H152_2 : mo_v G H152 a0 2 = mo_v G H122 a0 2 := mo_v_F (r := 48) hB.1 hf h0 rfl ro_48 (by decide) (by decide)
                        have vv_H152_3 : mo_v G H152 a0 3 = mo_v G H122 a0 3 := mo_v_F (r := 49) hB.1 hf h0 rfl ro_49 (by decide) (by decide)
                        have vv_H152_4 : mo_v G H152 a0 4 = mo_v G H122 a0 4 := mo_v_F (r := 50) hB.1 hf h0 rfl ro_50 (by decide) (by decide)
                        have vv_H152_31 : mo_v G H152 a0 31 = mo_v G H122 a0 31 := mo_v_F (r := 61) hB.1 hf h0 rfl ro_61 (by decide) (by decide)
                        have vv_H152_5 : mo_v G H152 a0 5 = mo_v G H122 a0 5 := mo_v_F (r := 51) hB.1 hf h0 rfl ro_51 (by decide) (by decide)
                        have vv_H152_15 : mo_v G H152 a0 15 = mo_v G H122 a0 15 := mo_v_F (r := 55) hB.1 hf h0 rfl ro_55 (by decide) (by decide)
                        have vv_H152_32 : mo_v G H152 a0 32 = mo_v G H122 a0 32 := mo_v_F (r := 62) hB.1 hf h0 rfl ro_62 (by decide) (by decide)
                        replace hF := hF.trans (congrArg (dv_k f_X12_orders_27b) (congrArg (dv_k f_X12_orders_95b) (congrArg (dv_k f_X12_orders_122b) (dv_bn (dv_putI hB.1 h0 ro_46 (j := 33) rfl (th_apart hC cf_X12) hst152 (Eq.refl _) (by decide))))))
                        have fp152 : mo_f G H152 a0 33 = x2.toInt := mo_f_St hst152
                        refine lv_aload_n hx hb dX12_orders_155 rfl (lv_at hl 1 rfl) ?_
                        refine lv_iload_n hx hb dX12_orders_156 rfl (lv_at hl 2 rfl) ?_
                        refine th_put hC cf_X12 hB h0 (Or.inl h0) ro_46 rfl (j := 47) rfl th_sIa (by decide) rfl rfl rfl kf_X12_97 dX12_orders_157 (fun H157 locs hB hf hst157 => ?_)
                        have hR := th_RE_F hB.1 hR h0 hf (th_T_s h0 ro_46 hst157) (by decide)
                        have fv_H157_18 : mo_f G H157 a0 18 = mo_f G H152 a0 18 := mo_f_F hf h0 (by decide) (by decide)
                        have fv_H157_33 : mo_f G H157 a0 33 = mo_f G H152 a0 33 := mo_f_F hf h0 (by decide) (by decide)
                        have fv_H157_48 : mo_f G H157 a0 48 = mo_f G H152 a0 48 := mo_f_F hf h0 (by decide) (by decide)
                        have vv_H157_2 : mo_v G H157 a0 2 = mo_v G H152 a0 2 := mo_v_F (r := 48) hB.1 hf h0 rfl ro_48 (by decide) (by decide)
                        have vv_H157_3 : mo_v G H157 a0 3 = mo_v G H152 a0 3 := mo_v_F (r := 49) hB.1 hf h0 rfl ro_49 (by decide) (by decide)
                        have vv_H157_4 : mo_v G H157 a0 4 = mo_v G H152 a0 4 := mo_v_F (r := 50) hB.1 hf h0 rfl ro_50 (by decide) (by decide)
                        have vv_H157_31 : mo_v G H157 a0 31 = mo_v G H152 a0 31 := mo_v_F (r := 61) hB.1 hf h0 rfl ro_61 (by decide) (by decide)
                        have vv_H157_5 : mo_v G H157 a0 5 = mo_v G H152 a0 5 := mo_v_F (r := 51) hB.1 hf h0 rfl ro_51 (by decide) (by decide)
                        have vv_H157_15 : mo_v G H157 a0 15 = mo_v G H152 a0 15 := mo_v_F (r := 55) hB.1 hf h0 rfl ro_55 (by decide) (by decide)
                        have vv_H157_32 : mo_v G H157 a0 32 = mo_v G H152 a0 32 := mo_v_F (r := 62) hB.1 hf h0 rfl ro_62 (by decide) (by decide)
                        replace hF := hF.trans (congrArg (dv_k f_X12_orders_27b) (congrArg (dv_k f_X12_orders_95b) (congrArg (dv_k f_X12_orders_122b) (dv_bn (dv_putI hB.1 h0 ro_46 (j := 47) rfl (th_apart hC cf_X12) hst157 (Eq.refl _) (by decide))))))
                        have kz : ∀ z : Int, 0 ≤ z → mo_v G H157 a0 2 z = mo_v G H60 a0 2 z := fun z a9 => by rw [vv_H157_2, vv_H152_2, g122_3, z116_0 z]; by_cases q9 : 0 ≤ z ∧ z < 29; rw [if_pos q9, vv_H105_5, C95, vv_H60_5, sr27.2.1, show 29 * (1 : Int32).toInt + z = 29 * (1 : Int32).toInt + z from rfl, z22_0 z (by omega) (by omega), ly z (by omega), mo_ly_0 (by omega) (by omega), sr27.1, vv_H22_2]; rw [if_neg q9, z105_0 z (by omega)]; exact B95 z (by omega)
                        have lz : ∀ z : Int, 0 ≤ z → z < 480 → mo_v G H157 a0 31 z = mo_v G H60 a0 31 z := fun z a9 b9 => by rw [vv_H157_31, vv_H152_31, g122_2 z a9 (by omega), vv_H60_32, la27 z a9 (by omega), vv_H60_31, sr27.2.2.2.1]
                        have hR : th_RN a0 G Γ H157 := ⟨hR.1, by rw [(mo_v_F (j := 3) (r := 49) hB.1 hB.2.2 h0 rfl ro_49 (by decide) (by decide) : mo_v G H157 a0 3 = _), ← (mo_v_F (j := 3) (r := 49) hB60.1 hB60.2.2 h0 rfl ro_49 (by decide) (by decide) : mo_v G H60 a0 3 = _), (mo_v_F (j := 4) (r := 50) hB.1 hB.2.2 h0 rfl ro_50 (by decide) (by decide) : mo_v G H157 a0 4 = _), ← (mo_v_F (j := 4) (r := 50) hB60.1 hB60.2.2 h0 rfl ro_50 (by decide) (by decide) : mo_v G H60 a0 4 = _), show mo_f G H157 a0 33 = mo_f G H60 a0 33 by omega]; exact mo_ok_l (mo_ok_29 hR60.2 (fun i hi => kz i (by omega)) (mo_geo_ext (fun i a9 b9 => kz i a9) hR60.2.1.2.1)) (mo_f_rg hB60.1 h0 (j := 33) rfl).2 lz⟩
                        refine lv_aload_n hx hb dX12_orders_160 rfl (lv_at hl 1 rfl) ?_
                        refine lv_bipush (v := (-3)) hx hb dX12_orders_161 (by decide) ?_
                        refine th_call (th_runV (As := [.int (-3)]) (rest := []) hC mf_X12_refuses km_X12_109 im_X12_refuses se_X12_refuses (c_X12_refuses l G Γ H157 hB.1 hR.1 hU a0 h0 (-3) (by decide) (by decide)) rfl rfl ⟨Nat.le_of_ble_eq_true rfl, Nat.le_of_ble_eq_true rfl⟩ hB.1 h0 ro_46 rfl rfl hl.1 rfl (Nat.le_of_ble_eq_true rfl) dX12_orders_163 ⟨Nat.le_refl _, Nat.le_refl _⟩) hB.2.1 (fun v163 H163 locs hp hz hS => ?_)
                        have hRD := hR
                        obtain ⟨x18, rfl, q163_0, hI1, hf, hR, z163_0⟩ := hp
                        have hR := th_RN_c hR hRD hI1 h0 hf (by decide)
                        have hB := th_B_c hB hI1 hS hf (by decide)
                        have fv_H163_18 : mo_f G H163 a0 18 = mo_f G H157 a0 18 := mo_f_F hf h0 (by decide) (by decide)
                        have fv_H163_33 : mo_f G H163 a0 33 = mo_f G H157 a0 33 := mo_f_F hf h0 (by decide) (by decide)
                        have fv_H163_48 : mo_f G H163 a0 48 = mo_f G H157 a0 48 := mo_f_F hf h0 (by decide) (by decide)
                        have vv_H163_2 : mo_v G H163 a0 2 = mo_v G H157 a0 2 := mo_v_F (r := 48) hB.1 hf h0 rfl ro_48 (by decide) (by decide)
                        have vv_H163_3 : mo_v G H163 a0 3 = mo_v G H157 a0 3 := mo_v_F (r := 49) hB.1 hf h0 rfl ro_49 (by decide) (by decide)
                        have vv_H163_4 : mo_v G H163 a0 4 = mo_v G H157 a0 4 := mo_v_F (r := 50) hB.1 hf h0 rfl ro_50 (by decide) (by decide)
                        have vv_H163_31 : mo_v G H163 a0 31 = mo_v G H157 a0 31 := mo_v_F (r := 61) hB.1 hf h0 rfl ro_61 (by decide) (by decide)
                        have vv_H163_5 : mo_v G H163 a0 5 = mo_v G H157 a0 5 := mo_v_F (r := 51) hB.1 hf h0 rfl ro_51 (by decide) (by decide)
                        have vv_H163_15 : mo_v G H163 a0 15 = mo_v G H157 a0 15 := mo_v_F (r := 55) hB.1 hf h0 rfl ro_55 (by decide) (by decide)
                        have vv_H163_32 : mo_v G H163 a0 32 = mo_v G H157 a0 32 := mo_v_F (r := 62) hB.1 hf h0 rfl ro_62 (by decide) (by decide)
                        have w163_0 := tk_m3
                        have zf163 := z163_0
                        rw [tk_m3] at zf163
                        replace hF := hF.trans (congrArg (dv_k f_X12_orders_27b) (congrArg (dv_k f_X12_orders_95b) (congrArg (dv_k f_X12_orders_122b) (dv_bn2 (zf163)))))
                        refine W.eq (g2 := F0 m 166 ls [.int x18]) rfl ?_
                        replace hF := hF.trans (congrArg (dv_k f_X12_orders_27b) (congrArg (dv_k f_X12_orders_95b) (dv_kr)))
                        replace hF := hF.trans (congrArg (dv_k f_X12_orders_27b) (dv_kr))
                        replace hF := hF.trans (dv_kr)
                        exact th_iret hC hH hr hlocks rfl hB.2.1 ⟨_, rfl, hB.1, hB.2.2, hR, (hF0.symm.trans hF)⟩ dX12_orders_166
                      · replace hF := hF.trans (congrArg (dv_k f_X12_orders_27b) (congrArg (dv_k f_X12_orders_95b) (congrArg (dv_k f_X12_orders_122b) (if_neg (Int.not_le.mpr c127)))))
                        refine lv_aload_n hx hb dX12_orders_130 rfl (lv_at hl 1 rfl) ?_
                        refine th_getO (j := 31) (r2 := 61) hC cf_X12 hB.1 h0 ro_46 rfl rfl kf_X12_72 dX12_orders_131 (fun b19 mb19 hb19 => ?_)
                        have sb19 := (th_F_o hB.2.2 h0 ro_46 (j := 31) (by decide) (by decide)).symm.trans mb19
                        refine lv_iload hx hb dX12_orders_134 (lv_at hl 3 rfl) ?_
                        refine lv_aload_n hx hb dX12_orders_136 rfl (lv_at hl 1 rfl) ?_
                        refine th_getO (j := 32) (r2 := 62) hC cf_X12 hB.1 h0 ro_46 rfl rfl kf_X12_75 dX12_orders_137 (fun b20 mb20 hb20 => ?_)
                        have sb20 := (th_F_o hB.2.2 h0 ro_46 (j := 32) (by decide) (by decide)).symm.trans mb20
                        refine lv_iload hx hb dX12_orders_140 (lv_at hl 3 rfl) ?_
                        refine th_ialdF hC hB.1 hb20 ro_62 rfl (Eq.refl _) (by omega) (by omega) rfl dX12_orders_142 (fun x21 mx21 lx21 ux21 => ?_)
                        replace hF := hF.trans (congrArg (dv_k f_X12_orders_27b) (congrArg (dv_k f_X12_orders_95b) (congrArg (dv_k f_X12_orders_122b) (dv_bn (dv_aldI hB.1 hU hb20 ow_62 (z := j122_4.toInt) mx21 (by omega))))))
                        have vgx21 : mo_v G H122 a0 32 j122_4.toInt = x21.toInt := by rw [show (j122_4.toInt : Int) = j122_4.toInt by omega]; exact mo_vat mb20 mx21 (by omega)
                        have hIo := hB.1
                        refine th_iastF hC hB hb19 (Or.inl hb19) ro_61 rfl (by decide) (Eq.refl _) (by omega) (by omega) th_sIa dX12_orders_143 (fun H143 locs hB hf143 hst143 => ?_)
                        have hf := hf143
                        have mm22 := (th_F_o hf h0 ro_46 (j := 31) (by decide) (by decide)).trans mb19
                        have mm23 := (th_F_o hf h0 ro_46 (j := 32) (by decide) (by decide)).trans mb20
                        have hR := th_RE_F hB.1 hR h0 hf (th_T_s hb19 ro_61 hst143) (by decide)
                        have fv_H143_18 : mo_f G H143 a0 18 = mo_f G H122 a0 18 := mo_f_F hf h0 (by decide) (by decide)
                        have fv_H143_33 : mo_f G H143 a0 33 = mo_f G H122 a0 33 := mo_f_F hf h0 (by decide) (by decide)
                        have fv_H143_48 : mo_f G H143 a0 48 = mo_f G H122 a0 48 := mo_f_F hf h0 (by decide) (by decide)
                        have vv_H143_2 : mo_v G H143 a0 2 = mo_v G H122 a0 2 := mo_v_F (r := 48) hB.1 hf h0 rfl ro_48 (by decide) (by decide)
                        have vv_H143_3 : mo_v G H143 a0 3 = mo_v G H122 a0 3 := mo_v_F (r := 49) hB.1 hf h0 rfl ro_49 (by decide) (by decide)
                        have vv_H143_4 : mo_v G H143 a0 4 = mo_v G H122 a0 4 := mo_v_F (r := 50) hB.1 hf h0 rfl ro_50 (by decide) (by decide)
                        have vv_H143_5 : mo_v G H143 a0 5 = mo_v G H122 a0 5 := mo_v_F (r := 51) hB.1 hf h0 rfl ro_51 (by decide) (by decide)
                        have vv_H143_15 : mo_v G H143 a0 15 = mo_v G H122 a0 15 := mo_v_F (r := 55) hB.1 hf h0 rfl ro_55 (by decide) (by decide)
                        have vv_H143_32 : mo_v G H143 a0 32 = mo_v G H122 a0 32 := mo_v_F (r := 62) hB.1 hf h0 rfl ro_62 (by decide) (by decide)
                        replace hF := hF.trans (congrArg (dv_k f_X12_orders_27b) (congrArg (dv_k f_X12_orders_95b) (congrArg (dv_k f_X12_orders_122b) (dv_bn (dv_stoI hIo hB.1 hU hb19 ow_61 (i := j122_4.toInt) hst143 (Eq.refl _) (by omega))))))
                        have vs143 : mo_v G H143 a0 31 = mo_u (mo_v G H122 a0 31) j122_4.toInt x21.toInt := by rw [show (j122_4.toInt : Int) = j122_4.toInt by omega]; exact mo_v_st h0 hb19 (by decide) mb19 hst143 (by omega)
                        refine tr_iinc (fun x24 => [(4, .int x24), (1, .int x2), (0, .ref a0), (3, .int j95_3)]) hx hb dX12_orders_144 hl (k := 3) rfl (Eq.refl _) tk_1 (by omega) (by omega) (by decide) (fun _ => rfl) (fun x24 ls ex24 hl => ?_)
                        replace hF := hF.trans (congrArg (dv_k f_X12_orders_27b) (congrArg (dv_k f_X12_orders_95b) (congrArg (dv_k f_X12_orders_122b) (dv_bn (ex24.symm)))))
                        refine lv_goto (tgt := 122) hx hb dX12_orders_147 (by decide) ?_
                        replace hF := hF.trans (congrArg (dv_k f_X12_orders_27b) (congrArg (dv_k f_X12_orders_95b) (dv_kl)))
                        exact ih122 H143 locs ls x24 hB hR (lv_sub hl [1, 2, 3, 0] rfl) hF (by omega) (by omega) (fun z a9 b9 => by rw [vs143]; by_cases q9 : z = j122_4.toInt; rw [mo_us q9, q9, ← g122_4, ← vgx21]; rw [mo_un q9]; exact g122_2 z a9 (by omega)) (vv_H143_2.trans g122_3) (vv_H143_32.trans g122_4) (by omega)
                  exact lp122 ((2147483648 : Int) - (0)).toNat H116 locs ls 0 hB hR (lv_sub hl [2, 3, 4, 0] rfl) (by rw [tk_0]; exact hF) (by decide) (by decide) (fun z a9 b9 => by have w0 := tk_0; omega) rfl (by rw [vv_H116_32, vv_H105_32]; exact D95) (by have w0 := tk_0; omega)
                · replace hF := hF.trans (congrArg (dv_k f_X12_orders_27b) (congrArg (dv_k f_X12_orders_95b) (if_neg c108)))
                  refine lv_goto (tgt := 167) hx hb dX12_orders_111 (by decide) ?_
                  refine tr_iincE (fun x25 => [(3, .int x25), (2, .int x11), (1, .int x2), (0, .ref a0)]) hx hb dX12_orders_167 hl (k := 3) rfl (Eq.refl _) (by decide) (fun _ => rfl) (fun x25 ls ex25 hl => ?_)
                  have lx25 := ti_lo x25; have ux25 := ti_hi x25
                  replace hF := hF.trans (congrArg (dv_k f_X12_orders_27b) (congrArg (dv_k f_X12_orders_95b) (dv_bn (ex25))))
                  refine lv_goto (tgt := 95) hx hb dX12_orders_170 (by decide) ?_
                  replace hF := hF.trans (congrArg (dv_k f_X12_orders_27b) (dv_kl))
                  exact ih95 H105 locs ls x25 hB hR (lv_sub hl [1, 2, 3, 0] rfl) hF ⟨j1 + 1, by have q9 := z105_1 (by omega); omega, by omega, by rcases r1 with ⟨q9, -⟩ | ⟨-, q9⟩; exact Or.inl (by omega); exact Or.inr q9⟩ (fun z a9 => by rw [z105_0 z a9]; exact g95_1 z a9) (vv_H105_5.trans g95_2) (vv_H105_32.trans g95_3) (by omega)
          exact lp95 ((2400 + nn + 3 - mo_f G H77 a0 48)).toNat H77 locs ls 0 hB hR (lv_sub hl [1, 2, 3, 0] rfl) (by rw [tk_0]; exact hF) ⟨0, by omega, by omega, Or.inr TX⟩ (fun z a9 => by rw [vv_H77_2, vv_H70_2, vv_H65_2]) (by rw [vv_H77_5, vv_H70_5, vv_H65_5]) (by rw [vv_H77_32, vv_H70_32, vv_H65_32]) (by have w0 := tk_0; omega)
        · replace hF := hF.trans (congrArg (dv_k f_X12_orders_27b) (if_neg (Int.not_le.mpr c31)))
          refine lv_aload_n hx hb dX12_orders_34 rfl (lv_at hl 0 rfl) ?_
          refine th_getO (j := 32) (r2 := 62) hC cf_X12 hB.1 h0 ro_46 rfl rfl kf_X12_75 dX12_orders_35 (fun b26 mb26 hb26 => ?_)
          have sb26 := (th_F_o hB.2.2 h0 ro_46 (j := 32) (by decide) (by decide)).symm.trans mb26
          refine lv_iload_n hx hb dX12_orders_38 rfl (lv_at hl 1 rfl) ?_
          refine lv_aload_n hx hb dX12_orders_39 rfl (lv_at hl 0 rfl) ?_
          refine th_getO (j := 31) (r2 := 61) hC cf_X12 hB.1 h0 ro_46 rfl rfl kf_X12_72 dX12_orders_40 (fun b27 mb27 hb27 => ?_)
          have sb27 := (th_F_o hB.2.2 h0 ro_46 (j := 31) (by decide) (by decide)).symm.trans mb27
          refine lv_iload_n hx hb dX12_orders_43 rfl (lv_at hl 1 rfl) ?_
          refine th_ialdF hC hB.1 hb27 ro_61 rfl (Eq.refl _) (by omega) (by omega) rfl dX12_orders_44 (fun x28 mx28 lx28 ux28 => ?_)
          replace hF := hF.trans (congrArg (dv_k f_X12_orders_27b) (dv_bn (dv_aldI hB.1 hU hb27 ow_61 (z := j27_1.toInt) mx28 (by omega))))
          have vgx28 : mo_v G H27 a0 31 j27_1.toInt = x28.toInt := by rw [show (j27_1.toInt : Int) = j27_1.toInt by omega]; exact mo_vat mb27 mx28 (by omega)
          have hIo := hB.1
          refine th_iastF hC hB hb26 (Or.inl hb26) ro_62 rfl (by decide) (Eq.refl _) (by omega) (by omega) th_sIa dX12_orders_45 (fun H45 locs hB hf45 hst45 => ?_)
          have hf := hf45
          have mm29 := (th_F_o hf h0 ro_46 (j := 32) (by decide) (by decide)).trans mb26
          have mm30 := (th_F_o hf h0 ro_46 (j := 31) (by decide) (by decide)).trans mb27
          have hR := th_RN_F hB.1 hR h0 hf (th_T_s hb26 ro_62 hst45) (by decide)
          have fv_H45_18 : mo_f G H45 a0 18 = mo_f G H27 a0 18 := mo_f_F hf h0 (by decide) (by decide)
          have fv_H45_33 : mo_f G H45 a0 33 = mo_f G H27 a0 33 := mo_f_F hf h0 (by decide) (by decide)
          have fv_H45_48 : mo_f G H45 a0 48 = mo_f G H27 a0 48 := mo_f_F hf h0 (by decide) (by decide)
          have vv_H45_2 : mo_v G H45 a0 2 = mo_v G H27 a0 2 := mo_v_F (r := 48) hB.1 hf h0 rfl ro_48 (by decide) (by decide)
          have vv_H45_3 : mo_v G H45 a0 3 = mo_v G H27 a0 3 := mo_v_F (r := 49) hB.1 hf h0 rfl ro_49 (by decide) (by decide)
          have vv_H45_4 : mo_v G H45 a0 4 = mo_v G H27 a0 4 := mo_v_F (r := 50) hB.1 hf h0 rfl ro_50 (by decide) (by decide)
          have vv_H45_31 : mo_v G H45 a0 31 = mo_v G H27 a0 31 := mo_v_F (r := 61) hB.1 hf h0 rfl ro_61 (by decide) (by decide)
          have vv_H45_5 : mo_v G H45 a0 5 = mo_v G H27 a0 5 := mo_v_F (r := 51) hB.1 hf h0 rfl ro_51 (by decide) (by decide)
          have vv_H45_15 : mo_v G H45 a0 15 = mo_v G H27 a0 15 := mo_v_F (r := 55) hB.1 hf h0 rfl ro_55 (by decide) (by decide)
          replace hF := hF.trans (congrArg (dv_k f_X12_orders_27b) (dv_bn (dv_stoI hIo hB.1 hU hb26 ow_62 (i := j27_1.toInt) hst45 (Eq.refl _) (by omega))))
          have vs45 : mo_v G H45 a0 32 = mo_u (mo_v G H27 a0 32) j27_1.toInt x28.toInt := by rw [show (j27_1.toInt : Int) = j27_1.toInt by omega]; exact mo_v_st h0 hb26 (by decide) mb26 hst45 (by omega)
          refine tr_iinc (fun x31 => [(1, .int x31), (0, .ref a0)]) hx hb dX12_orders_46 hl (k := 1) rfl (Eq.refl _) tk_1 (by omega) (by omega) (by decide) (fun _ => rfl) (fun x31 ls ex31 hl => ?_)
          replace hF := hF.trans (congrArg (dv_k f_X12_orders_27b) (dv_bn (ex31.symm)))
          refine lv_goto (tgt := 27) hx hb dX12_orders_49 (by decide) ?_
          replace hF := hF.trans (dv_kl)
          exact ih27 H45 locs ls x31 hB hR (lv_sub hl [1, 0] rfl) hF (by omega) (by omega) (fun z a9 b9 => by rw [vs45]; by_cases q9 : z = j27_1.toInt; rw [mo_us q9, q9, ← g27_3.2.2.2.1, ← vgx28]; rw [mo_un q9]; exact g27_2 z a9 (by omega)) (mo_sr_tr g27_3 (mo_sr_F hB.1 hf h0 (by decide))) (by omega)
    exact lp27 ((2147483648 : Int) - (0)).toNat H22 locs ls 0 hB hR (lv_sub hl [1, 0] rfl) (by rw [tk_0]; exact hF) (by decide) (by decide) (fun z a9 b9 => by have w0 := tk_0; omega) mo_sr_rf (by have w0 := tk_0; omega)
  · replace hF := hF.trans (if_neg (not_not_intro c10))
    refine lv_aload_n hx hb dX12_orders_13 rfl (lv_at hl 0 rfl) ?_
    refine lv_bipush (v := (-6)) hx hb dX12_orders_14 (by decide) ?_
    refine th_call (th_runV (As := [.int (-6)]) (rest := []) hC mf_X12_refuses km_X12_109 im_X12_refuses se_X12_refuses (c_X12_refuses l G Γ H7 hB.1 hR.1 hU a0 h0 (-6) (by decide) (by decide)) rfl rfl ⟨Nat.le_of_ble_eq_true rfl, Nat.le_of_ble_eq_true rfl⟩ hB.1 h0 ro_46 rfl rfl hl.1 rfl (Nat.le_of_ble_eq_true rfl) dX12_orders_16 ⟨Nat.le_refl _, Nat.le_refl _⟩) hB.2.1 (fun v16 H16 locs hp hz hS => ?_)
    have hRD := hR
    obtain ⟨x32, rfl, q16_0, hI1, hf, hR, z16_0⟩ := hp
    have hR := th_RN_c hR hRD hI1 h0 hf (by decide)
    have hB := th_B_c hB hI1 hS hf (by decide)
    have fv_H16_18 : mo_f G H16 a0 18 = mo_f G H7 a0 18 := mo_f_F hf h0 (by decide) (by decide)
    have fv_H16_33 : mo_f G H16 a0 33 = mo_f G H7 a0 33 := mo_f_F hf h0 (by decide) (by decide)
    have fv_H16_48 : mo_f G H16 a0 48 = mo_f G H7 a0 48 := mo_f_F hf h0 (by decide) (by decide)
    have vv_H16_2 : mo_v G H16 a0 2 = mo_v G H7 a0 2 := mo_v_F (r := 48) hB.1 hf h0 rfl ro_48 (by decide) (by decide)
    have vv_H16_3 : mo_v G H16 a0 3 = mo_v G H7 a0 3 := mo_v_F (r := 49) hB.1 hf h0 rfl ro_49 (by decide) (by decide)
    have vv_H16_4 : mo_v G H16 a0 4 = mo_v G H7 a0 4 := mo_v_F (r := 50) hB.1 hf h0 rfl ro_50 (by decide) (by decide)
    have vv_H16_31 : mo_v G H16 a0 31 = mo_v G H7 a0 31 := mo_v_F (r := 61) hB.1 hf h0 rfl ro_61 (by decide) (by decide)
    have vv_H16_5 : mo_v G H16 a0 5 = mo_v G H7 a0 5 := mo_v_F (r := 51) hB.1 hf h0 rfl ro_51 (by decide) (by decide)
    have vv_H16_15 : mo_v G H16 a0 15 = mo_v G H7 a0 15 := mo_v_F (r := 55) hB.1 hf h0 rfl ro_55 (by decide) (by decide)
    have vv_H16_32 : mo_v G H16 a0 32 = mo_v G H7 a0 32 := mo_v_F (r := 62) hB.1 hf h0 rfl ro_62 (by decide) (by decide)
    have w16_0 := tk_m6
    have zf16 := z16_0
    rw [tk_m6] at zf16
    replace hF := hF.trans (dv_bn2 (zf16))
    refine W.eq (g2 := F0 m 19 ls [.int x32]) rfl ?_
    exact th_iret hC hH hr hlocks rfl hB.2.1 ⟨_, rfl, hB.1, hB.2.2, hR, (hF0.symm.trans hF)⟩ dX12_orders_19
