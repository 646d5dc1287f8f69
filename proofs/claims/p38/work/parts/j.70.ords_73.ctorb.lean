section
section MO11
variable {G : th_G} {Γ : th_Ga} {H H1 H2 : Heap} {L : List (Nat × Nat)} {a : Nat}
/-- what orders hold on to is the same -/
def mo_sr (G : th_G) (H H1 : Heap) (a : Nat) : Prop := mo_v G H1 a 2 = mo_v G H a 2 ∧ mo_v G H1 a 5 = mo_v G H a 5 ∧ mo_v G H1 a 15 = mo_v G H a 15 ∧ mo_v G H1 a 31 = mo_v G H a 31 ∧ mo_f G H1 a 18 = mo_f G H a 18 ∧ mo_f G H1 a 33 = mo_f G H a 33
theorem mo_sr_rf : mo_sr G H H a := ⟨rfl, rfl, rfl, rfl, rfl, rfl⟩
theorem mo_sr_tr (h : mo_sr G H H1 a) (h1 : mo_sr G H1 H2 a) : mo_sr G H H2 a := ⟨h1.1.trans h.1, h1.2.1.trans h.2.1, h1.2.2.1.trans h.2.2.1, h1.2.2.2.1.trans h.2.2.2.1, h1.2.2.2.2.1.trans h.2.2.2.2.1, h1.2.2.2.2.2.trans h.2.2.2.2.2⟩
theorem mo_sr_F (hI : th_I G Γ H1) (hF : th_F G Γ L H H1) (ha : Γ a = (46, 0)) (hL : (th_in L 46 2 = false ∧ th_in L 48 0 = false) ∧ (th_in L 46 5 = false ∧ th_in L 51 0 = false) ∧ (th_in L 46 15 = false ∧ th_in L 55 0 = false) ∧ (th_in L 46 31 = false ∧ th_in L 61 0 = false) ∧ th_in L 46 18 = false ∧ th_in L 46 33 = false) : mo_sr G H H1 a :=
  ⟨mo_v_F (j := 2) (r := 48) hI hF ha rfl ro_48 hL.1.1 hL.1.2, mo_v_F (j := 5) (r := 51) hI hF ha rfl ro_51 hL.2.1.1 hL.2.1.2, mo_v_F (j := 15) (r := 55) hI hF ha rfl ro_55 hL.2.2.1.1 hL.2.2.1.2, mo_v_F (j := 31) (r := 61) hI hF ha rfl ro_61 hL.2.2.2.1.1 hL.2.2.2.1.2, mo_f_F hF ha (by decide) hL.2.2.2.2.1, mo_f_F hF ha (by decide) hL.2.2.2.2.2⟩
theorem mo_ok_l {k im has l l' : Int → Int} {u : Int} (hk : mo_ok k im has l u) (hu : u ≤ 16) (h : ∀ z, 0 ≤ z → z < 480 → l' z = l z) : mo_ok k im has l' u := by
  refine ⟨hk.1, hk.2.1, fun r r0 r1 => mo_geo_ext (fun i a b => ?_) (hk.2.2 r r0 r1)⟩
  unfold mo_mx
  by_cases w : i < 29
  · rw [if_pos w, if_pos w]
    exact h _ (by omega) (by omega)
  · rw [if_neg w, if_neg w]
theorem mo_ly_0 {k c : Int → Int} {t n i z : Int} (h : z < 73) (ht : 0 ≤ t) : mo_ly k c t n i z = k z := by
  unfold mo_ly
  rw [if_neg (by omega), if_neg (by omega)]
theorem mo_ly_79 {k c : Int → Int} {n i : Int} : mo_ly k c 6 n i 79 = n := by
  unfold mo_ly
  rw [if_pos (by omega)]
end MO11
set_option maxHeartbeats 4000000 in
set_option maxRecDepth 100000 in
theorem c_X12_orders (l : Launch) (G : th_G) (Γ : th_Ga) (H0 : Heap) (hI : th_I G Γ H0) (hU : dv_U Γ) (a0 : Nat) (h0 : Γ a0 = (46, 0)) (hR : th_RN a0 G Γ H0) : Met l yX12_orders (.code yX12_orders cX12_orders 5 (some FieldType.int) :: th_tb) ({ frames := 75, cells := 0, slots := 0, locals := 2247 } : Room) (th_P [.ref a0] G H0) (th_Q (fun (v : Option Value) (H1 : Heap) => ∃ r : Int32, v = some (.int r) ∧ th_I G Γ H1 ∧ th_F G Γ [(47, 0), (46, 0), (46, 19), (46, 20), (46, 21), (46, 18), (57, 0), (56, 0), (55, 0), (46, 13), (46, 14), (46, 8), (46, 9), (46, 10), (46, 22), (46, 24), (46, 23), (46, 25), (46, 49), (46, 50), (46, 51), (46, 52), (69, 0), (48, 0), (61, 0), (46, 33), (58, 0), (59, 0), (60, 0), (46, 28), (46, 27), (46, 48), (46, 47), (51, 0), (62, 0)] H0 H1 ∧ th_RN a0 G Γ H1 ∧ (f_X12_orders (dv G Γ H0) (a0 : Int) = (dv G Γ H1, r.toInt))) G) 0 0 (fun q => G.1.2.2 ≤ q) := by
  refine th_met RX12 (by decide) rfl (Nat.le_of_ble_eq_true rfl) ?_
  intro p e s m below meth c hC hH hr hlocks hnm ls hl
  have hx := hC.1
  have hb := hC.2.1
  have hB : th_B G Γ Γ [(47, 0), (46, 0), (46, 19), (46, 20), (46, 21), (46, 18), (57, 0), (56, 0), (55, 0), (46, 13), (46, 14), (46, 8), (46, 9), (46, 10), (46, 22), (46, 24), (46, 23), (46, 25), (46, 49), (46, 50), (46, 51), (46, 52), (69, 0), (48, 0), (61, 0), (46, 33), (58, 0), (59, 0), (60, 0), (46, 28), (46, 27), (46, 48), (46, 47), (51, 0), (62, 0)] H0 H0 [] := ⟨hI, va_S.rf, th_F_rf⟩
  have hl : lv_has ls 5 [(0, .ref a0)] := hl
  obtain ⟨F, hF0⟩ : ∃ F, F = f_X12_orders (dv G Γ H0) ((a0 : Int)) := ⟨_, rfl⟩
  have hF := hF0.trans (f_X12_orders.eq_1 (dv G Γ H0) ((a0 : Int)))
  refine lv_aload_n hx hb gX12_orders_0.1 rfl (lv_at hl 0 rfl) ?_
  refine lv_iconst (v := (-1)) hx hb gX12_orders_0.2.1 (by decide) ?_
  refine th_put hC cf_X12 hB h0 (Or.inl h0) ro_46 rfl (j := 47) rfl th_sIa (by decide) rfl rfl rfl kf_X12_97 gX12_orders_0.2.2.1 (fun H2 locs hB hf hst2 => ?_)
  have hR := th_RN_F hB.1 hR h0 hf (th_T_s h0 ro_46 hst2) (by decide)
  have fv_H2_18 : mo_f G H2 a0 18 = mo_f G H0 a0 18 := mo_f_F hf h0 (by decide) (by decide)
  have fv_H2_33 : mo_f G H2 a0 33 = mo_f G H0 a0 33 := mo_f_F hf h0 (by decide) (by decide)
  have fv_H2_48 : mo_f G H2 a0 48 = mo_f G H0 a0 48 := mo_f_F hf h0 (by decide) (by decide)
  have vv_H2_2 : mo_v G H2 a0 2 = mo_v G H0 a0 2 := mo_v_F (r := 48) hB.1 hf h0 rfl ro_48 (by decide) (by decide)
  have vv_H2_3 : mo_v G H2 a0 3 = mo_v G H0 a0 3 := mo_v_F (r := 49) hB.1 hf h0 rfl ro_49 (by decide) (by decide)
  have vv_H2_4 : mo_v G H2 a0 4 = mo_v G H0 a0 4 := mo_v_F (r := 50) hB.1 hf h0 rfl ro_50 (by decide) (by decide)
  have vv_H2_31 : mo_v G H2 a0 31 = mo_v G H0 a0 31 := mo_v_F (r := 61) hB.1 hf h0 rfl ro_61 (by decide) (by decide)
  have vv_H2_5 : mo_v G H2 a0 5 = mo_v G H0 a0 5 := mo_v_F (r := 51) hB.1 hf h0 rfl ro_51 (by decide) (by decide)
  have vv_H2_15 : mo_v G H2 a0 15 = mo_v G H0 a0 15 := mo_v_F (r := 55) hB.1 hf h0 rfl ro_55 (by decide) (by decide)
  have vv_H2_32 : mo_v G H2 a0 32 = mo_v G H0 a0 32 := mo_v_F (r := 62) hB.1 hf h0 rfl ro_62 (by decide) (by decide)
  replace hF := hF.trans (dv_bn (dv_putI hB.1 h0 ro_46 (j := 47) rfl (th_apart hC cf_X12) hst2 tk_m1 (by decide)))
  refine lv_aload_n hx hb gX12_orders_0.2.2.2.1 rfl (lv_at hl 0 rfl) ?_
  refine lv_iconst (v := 1) hx hb gX12_orders_0.2.2.2.2.1 (by decide) ?_
  refine th_call (th_runV (As := [.int 1]) (rest := []) hC mf_X12_readsAs km_X12_268 im_X12_readsAs se_X12_readsAs (c_X12_readsAs l G Γ H2 hB.1 hR.1 hU a0 h0 1 (by decide) (by decide)) rfl rfl ⟨Nat.le_of_ble_eq_true rfl, Nat.le_of_ble_eq_true rfl⟩ hB.1 h0 ro_46 rfl rfl hl.1 rfl (Nat.le_of_ble_eq_true rfl) gX12_orders_0.2.2.2.2.2.1 ⟨Nat.le_refl _, Nat.le_refl _⟩) hB.2.1 (fun v7 H7 locs hp hz hS => ?_)
  have hRD := hR
  obtain ⟨x1, rfl, lx1, ux1, hI1, hf, hR, z7_0, z7_1⟩ := hp
  have hR := th_RN_c hR hRD hI1 h0 hf (by decide)
  have hB := th_B_c hB hI1 hS hf (by decide)
  have fv_H7_33 : mo_f G H7 a0 33 = mo_f G H2 a0 33 := mo_f_F hf h0 (by decide) (by decide)
  have fv_H7_48 : mo_f G H7 a0 48 = mo_f G H2 a0 48 := mo_f_F hf h0 (by decide) (by decide)
  have vv_H7_2 : mo_v G H7 a0 2 = mo_v G H2 a0 2 := mo_v_F (r := 48) hB.1 hf h0 rfl ro_48 (by decide) (by decide)
  have vv_H7_3 : mo_v G H7 a0 3 = mo_v G H2 a0 3 := mo_v_F (r := 49) hB.1 hf h0 rfl ro_49 (by decide) (by decide)
  have vv_H7_4 : mo_v G H7 a0 4 = mo_v G H2 a0 4 := mo_v_F (r := 50) hB.1 hf h0 rfl ro_50 (by decide) (by decide)
  have vv_H7_31 : mo_v G H7 a0 31 = mo_v G H2 a0 31 := mo_v_F (r := 61) hB.1 hf h0 rfl ro_61 (by decide) (by decide)
  have vv_H7_5 : mo_v G H7 a0 5 = mo_v G H2 a0 5 := mo_v_F (r := 51) hB.1 hf h0 rfl ro_51 (by decide) (by decide)
  have vv_H7_32 : mo_v G H7 a0 32 = mo_v G H2 a0 32 := mo_v_F (r := 62) hB.1 hf h0 rfl ro_62 (by decide) (by decide)
  have zf7 := z7_1
  rw [tk_1] at zf7
  replace hF := hF.trans (dv_bn2 (zf7))
  refine W.eq (g2 := F0 m 10 ls [.int x1]) rfl ?_
  refine tr_if_ne (tgt := 20) hx hb gX12_orders_0.2.2.2.2.2.2.1 (by decide) (Eq.refl _) (fun c10 => ?_) (fun c10 => ?_)
  · replace hF := hF.trans (if_pos c10)
    refine lv_aload_n hx hb gX12_orders_1.2.2.2.1 rfl (lv_at hl 0 rfl) ?_
    refine lv_iconst (v := 1) hx hb gX12_orders_1.2.2.2.2.1 (by decide) ?_
    refine th_call (th_runV (As := [.int 1]) (rest := []) hC mf_X12_laysAside km_X12_477 im_X12_laysAside se_X12_laysAside (c_X12_laysAside l G Γ H7 hB.1 hR.1 hU a0 h0 1 (by decide) (by decide)) rfl rfl ⟨Nat.le_of_ble_eq_true rfl, Nat.le_of_ble_eq_true rfl⟩ hB.1 h0 ro_46 rfl rfl hl.1 rfl (Nat.le_of_ble_eq_true rfl) gX12_orders_1.2.2.2.2.2.1 ⟨Nat.le_refl _, Nat.le_refl _⟩) hB.2.1 (fun v22 H22 locs hp hz hS => ?_)
    have hRD := hR
    obtain ⟨rfl, hI1, hf, hR, z22_0, z22_1⟩ := hp
    have hR := th_RN_c hR hRD hI1 h0 hf (by decide)
    have hB := th_B_c hB hI1 hS hf (by decide)
    have fv_H22_18 : mo_f G H22 a0 18 = mo_f G H7 a0 18 := mo_f_F hf h0 (by decide) (by decide)
    have fv_H22_33 : mo_f G H22 a0 33 = mo_f G H7 a0 33 := mo_f_F hf h0 (by decide) (by decide)
    have fv_H22_48 : mo_f G H22 a0 48 = mo_f G H7 a0 48 := mo_f_F hf h0 (by decide) (by decide)
    have vv_H22_2 : mo_v G H22 a0 2 = mo_v G H7 a0 2 := mo_v_F (r := 48) hB.1 hf h0 rfl ro_48 (by decide) (by decide)
    have vv_H22_3 : mo_v G H22 a0 3 = mo_v G H7 a0 3 := mo_v_F (r := 49) hB.1 hf h0 rfl ro_49 (by decide) (by decide)
    have vv_H22_4 : mo_v G H22 a0 4 = mo_v G H7 a0 4 := mo_v_F (r := 50) hB.1 hf h0 rfl ro_50 (by decide) (by decide)
    have vv_H22_31 : mo_v G H22 a0 31 = mo_v G H7 a0 31 := mo_v_F (r := 61) hB.1 hf h0 rfl ro_61 (by decide) (by decide)
    have vv_H22_15 : mo_v G H22 a0 15 = mo_v G H7 a0 15 := mo_v_F (r := 55) hB.1 hf h0 rfl ro_55 (by decide) (by decide)
    have vv_H22_32 : mo_v G H22 a0 32 = mo_v G H7 a0 32 := mo_v_F (r := 62) hB.1 hf h0 rfl ro_62 (by decide) (by decide)
    have zf22 := z22_1
    rw [tk_1] at zf22
    replace hF := hF.trans (dv_bn2 (zf22))
    refine W.eq (g2 := F0 m 25 ls []) rfl ?_
    refine lv_iconst (v := 0) hx hb gX12_orders_1.2.2.2.2.2.2.1 (by decide) ?_
    refine lv_istore_n (lv' := [(1, .int 0), (0, .ref a0)]) hx hb gX12_orders_1.2.2.2.2.2.2.2 rfl hl (by decide) rfl (fun ls hl => ?_)
    have lp27 : ∀ (n27 : Nat) (H27 : Heap) (locs : List Loc) (ls : Array Slot) (j27_1 : Int32), th_B G Γ Γ [(47, 0), (46, 0), (46, 19), (46, 20), (46, 21), (46, 18), (57, 0), (56, 0), (55, 0), (46, 13), (46, 14), (46, 8), (46, 9), (46, 10), (46, 22), (46, 24), (46, 23), (46, 25), (46, 49), (46, 50), (46, 51), (46, 52), (69, 0), (48, 0), (61, 0), (46, 33), (58, 0), (59, 0), (60, 0), (46, 28), (46, 27), (46, 48), (46, 47), (51, 0), (62, 0)] H0 H27 locs → th_RN a0 G Γ H27 → lv_has ls 5 [(0, .ref a0), (1, .int j27_1)] → F = dv_lp f_X12_orders_27b (dv G Γ H27, (a0 : Int), j27_1.toInt) → 0 ≤ j27_1.toInt → j27_1.toInt ≤ 480 → (∀ z : Int, 0 ≤ z → z < j27_1.toInt → mo_v G H27 a0 32 z = mo_v G H22 a0 31 z) → mo_sr G H22 H27 a0 → (2147483648 : Int) - j27_1.toInt ≤ (n27 : Int) → W p l e ({ frames := 75, cells := 0, slots := 0, locals := 2247 } : Room) s m ([.ref a0] : List Value).toArray below meth c H27 locs 0 0 (MQ below (th_Q (fun (v : Option Value) (H1 : Heap) => ∃ r : Int32, v = some (.int r) ∧ th_I G Γ H1 ∧ th_F G Γ [(47, 0), (46, 0), (46, 19), (46, 20), (46, 21), (46, 18), (57, 0), (56, 0), (55, 0), (46, 13), (46, 14), (46, 8), (46, 9), (46, 10), (46, 22), (46, 24), (46, 23), (46, 25), (46, 49), (46, 50), (46, 51), (46, 52), (69, 0), (48, 0), (61, 0), (46, 33), (58, 0), (59, 0), (60, 0), (46, 28), (46, 27), (46, 48), (46, 47), (51, 0), (62, 0)] H0 H1 ∧ th_RN a0 G Γ H1 ∧ (f_X12_orders (dv G Γ H0) (a0 : Int) = (dv G Γ H1, r.toInt))) G) ([.ref a0] : List Value).toArray s 0 0 (fun q => G.1.2.2 ≤ q)) (F0 m 27 ls []) := by
      intro n27
      induction n27 with
      | zero => intro H27 locs ls j27_1 hB hR hl hF g27_0 g27_1 g27_2 g27_3 hm27; exact absurd hm27 (by have := ti_hi j27_1; omega)
      | succ n27 ih27 =>
        intro H27 locs ls j27_1 hB hR hl hF g27_0 g27_1 g27_2 g27_3 hm27
        have lj27_1 := ti_lo j27_1; have uj27_1 := ti_hi j27_1
        have vw_H27_3 : mo_v G H27 a0 3 = mo_v G H0 a0 3 := mo_v_F (r := 49) hB.1 hB.2.2 h0 rfl ro_49 (by decide) (by decide)
        have vw_H27_4 : mo_v G H27 a0 4 = mo_v G H0 a0 4 := mo_v_F (r := 50) hB.1 hB.2.2 h0 rfl ro_50 (by decide) (by decide)
        have hm27 : (2147483648 : Int) - j27_1.toInt ≤ (n27 : Int) + 1 := by omega
        replace hF := hF.trans (dv_lp_eq)
        replace hF := hF.trans (congrArg (dv_k f_X12_orders_27b) (f_X12_orders_27c.eq_1 (dv G Γ H27) ((a0 : Int)) (j27_1.toInt)))
        refine lv_iload_n hx hb gX12_orders_2.1 rfl (lv_at hl 1 rfl) ?_
        refine lv_sipush (v := 480) hx hb gX12_orders_2.2.1 (by decide) ?_
        refine tr_icmp_ge (tgt := 52) hx hb gX12_orders_2.2.2.1 (by decide) (Eq.refl _) tk_480 (fun c31 => ?_) (fun c31 => ?_)
        · replace hF := hF.trans (congrArg (dv_k f_X12_orders_27b) (if_pos c31))
          refine lv_aload_n hx hb gX12_orders_3.2.2.2.2.2.1 rfl (lv_at hl 0 rfl) ?_
          have hB27 := hB
          refine th_getI (j := 33) hC cf_X12 hB.1 h0 ro_46 rfl rfl kf_X12_11 gX12_orders_3.2.2.2.2.2.2.1 (fun x2 mx2 lx2 ux2 => ?_)
          replace hF := hF.trans (congrArg (dv_k f_X12_orders_27b) (dv_bn (dv_getI h0 ro_46 (j := 33) rfl mx2 (by decide))))
          have fg3 : mo_f G H27 a0 33 = x2.toInt := mo_fat mx2
          refine lv_istore_n (lv' := [(1, .int x2), (0, .ref a0)]) hx hb gX12_orders_3.2.2.2.2.2.2.2 rfl hl (by decide) rfl (fun ls hl => ?_)
          refine lv_aload_n hx hb gX12_orders_4.1 rfl (lv_at hl 1 rfl) ?_
          refine lv_bipush (v := 6) hx hb gX12_orders_4.2.1 (by decide) ?_
          refine th_call (th_runV (As := [.int 6]) (rest := []) hC mf_X12_lays km_X12_272 im_X12_lays se_X12_lays (c_X12_lays l G Γ H27 hB.1 hR.1 hU a0 h0 6 (by decide) (by decide)) rfl rfl ⟨Nat.le_of_ble_eq_true rfl, Nat.le_of_ble_eq_true rfl⟩ hB.1 h0 ro_46 rfl rfl hl.1 rfl (Nat.le_of_ble_eq_true rfl) gX12_orders_4.2.2.1 ⟨Nat.le_refl _, Nat.le_refl _⟩) hB.2.1 (fun v60 H60 locs hp hz hS => ?_)
          have hRD := hR
          obtain ⟨rfl, hI1, hf, hR, z60_0, z60_1⟩ := hp
          have hRc60 := hR
          have hR := hRD
          have hRC := hRc60
          have hB := th_B_c hB hI1 hS hf (by decide)
          have fv_H60_18 : mo_f G H60 a0 18 = mo_f G H27 a0 18 := mo_f_F hf h0 (by decide) (by decide)
          have fv_H60_33 : mo_f G H60 a0 33 = mo_f G H27 a0 33 := mo_f_F hf h0 (by decide) (by decide)
          have fv_H60_48 : mo_f G H60 a0 48 = mo_f G H27 a0 48 := mo_f_F hf h0 (by decide) (by decide)
          have vv_H60_3 : mo_v G H60 a0 3 = mo_v G H27 a0 3 := mo_v_F (r := 49) hB.1 hf h0 rfl ro_49 (by decide) (by decide)
          have vv_H60_4 : mo_v G H60 a0 4 = mo_v G H27 a0 4 := mo_v_F (r := 50) hB.1 hf h0 rfl ro_50 (by decide) (by decide)
          have vv_H60_31 : mo_v G H60 a0 31 = mo_v G H27 a0 31 := mo_v_F (r := 61) hB.1 hf h0 rfl ro_61 (by decide) (by decide)
          have vv_H60_5 : mo_v G H60 a0 5 = mo_v G H27 a0 5 := mo_v_F (r := 51) hB.1 hf h0 rfl ro_51 (by decide) (by decide)
          have vv_H60_15 : mo_v G H60 a0 15 = mo_v G H27 a0 15 := mo_v_F (r := 55) hB.1 hf h0 rfl ro_55 (by decide) (by decide)
          have vv_H60_32 : mo_v G H60 a0 32 = mo_v G H27 a0 32 := mo_v_F (r := 62) hB.1 hf h0 rfl ro_62 (by decide) (by decide)
          have zf60 := z60_1
          rw [tk_6] at zf60
          replace hF := hF.trans (congrArg (dv_k f_X12_orders_27b) (dv_bn2 (zf60)))
          refine W.eq (g2 := F0 m 63 ls []) rfl ?_
          have sr27 := g27_3
          have la27 := g27_2
          have n400 := (mo_f_rg hB27.1 h0 (j := 18) rfl)
          obtain ⟨nn, enn⟩ : ∃ n : Int, n = mo_f G H27 a0 18 := ⟨_, rfl⟩
          have ly : ∀ z : Int, z < 2880 → mo_v G H60 a0 2 z = mo_ly (mo_v G H27 a0 2) (mo_v G H27 a0 15) 6 nn nn z := by rw [enn]; exact z60_0
          have hR : th_RN a0 G Γ H60 := ⟨hRC, by rw [vv_H60_3, vv_H60_4, vv_H60_31, fv_H60_33]; exact mo_ok_6 hR.2 (by omega) ly⟩
          have hR60 := hR
          have hB60 := hB
          obtain ⟨T, eT⟩ : ∃ T : Int → Int, T = mo_tf (mo_v G H60 a0 2) 2480 nn := ⟨_, rfl⟩
          have TX : mo_text 1 T nn := by have q9 := z7_0 (by omega); unfold mo_cr at q9; rw [eT, mo_tf_6 (by omega) ly, sr27.2.2.1, vv_H22_15, enn, sr27.2.2.2.2.1, show mo_f G H22 a0 18 = mo_f G H7 a0 18 by omega]; exact q9
          refine lv_aload_n hx hb gX12_orders_4.2.2.2.1 rfl (lv_at hl 1 rfl) ?_
          refine lv_iconst (v := 0) hx hb gX12_orders_4.2.2.2.2.1 (by decide) ?_
          refine th_put hC cf_X12 hB h0 (Or.inl h0) ro_46 rfl (j := 27) rfl th_sIa (by decide) rfl rfl rfl kf_X12_317 gX12_orders_4.2.2.2.2.2.1 (fun H65 locs hB hf hst65 => ?_)
          have hR := th_RN_F hB.1 hR h0 hf (th_T_s h0 ro_46 hst65) (by decide)
          have fv_H65_18 : mo_f G H65 a0 18 = mo_f G H60 a0 18 := mo_f_F hf h0 (by decide) (by decide)
          have fv_H65_33 : mo_f G H65 a0 33 = mo_f G H60 a0 33 := mo_f_F hf h0 (by decide) (by decide)
          have fv_H65_48 : mo_f G H65 a0 48 = mo_f G H60 a0 48 := mo_f_F hf h0 (by decide) (by decide)
          have vv_H65_2 : mo_v G H65 a0 2 = mo_v G H60 a0 2 := mo_v_F (r := 48) hB.1 hf h0 rfl ro_48 (by decide) (by decide)
          have vv_H65_3 : mo_v G H65 a0 3 = mo_v G H60 a0 3 := mo_v_F (r := 49) hB.1 hf h0 rfl ro_49 (by decide) (by decide)
          have vv_H65_4 : mo_v G H65 a0 4 = mo_v G H60 a0 4 := mo_v_F (r := 50) hB.1 hf h0 rfl ro_50 (by decide) (by decide)
          have vv_H65_31 : mo_v G H65 a0 31 = mo_v G H60 a0 31 := mo_v_F (r := 61) hB.1 hf h0 rfl ro_61 (by decide) (by decide)
          have vv_H65_5 : mo_v G H65 a0 5 = mo_v G H60 a0 5 := mo_v_F (r := 51) hB.1 hf h0 rfl ro_51 (by decide) (by decide)
          have vv_H65_15 : mo_v G H65 a0 15 = mo_v G H60 a0 15 := mo_v_F (r := 55) hB.1 hf h0 rfl ro_55 (by decide) (by decide)
          have vv_H65_32 : mo_v G H65 a0 32 = mo_v G H60 a0 32 := mo_v_F (r := 62) hB.1 hf h0 rfl ro_62 (by decide) (by decide)
          replace hF := hF.trans (congrArg (dv_k f_X12_orders_27b) (dv_bn (dv_putI hB.1 h0 ro_46 (j := 27) rfl (th_apart hC cf_X12) hst65 tk_0 (by decide))))
          have mm4 := hst65.2.1
          refine lv_aload_n hx hb gX12_orders_4.2.2.2.2.2.2.1 rfl (lv_at hl 1 rfl) ?_
          refine lv_iconst (v := (-1)) hx hb gX12_orders_4.2.2.2.2.2.2.2 (by decide) ?_
          refine th_put hC cf_X12 hB h0 (Or.inl h0) ro_46 rfl (j := 28) rfl th_sIa (by decide) rfl rfl rfl kf_X12_320 gX12_orders_5.1 (fun H70 locs hB hf hst70 => ?_)
          have mm5 := (th_F_o hf h0 ro_46 (j := 27) (by decide) (by decide)).trans mm4
          have hR := th_RN_F hB.1 hR h0 hf (th_T_s h0 ro_46 hst70) (by decide)
          have fv_H70_18 : mo_f G H70 a0 18 = mo_f G H65 a0 18 := mo_f_F hf h0 (by decide) (by decide)
          have fv_H70_33 : mo_f G H70 a0 33 = mo_f G H65 a0 33 := mo_f_F hf h0 (by decide) (by decide)
          have fv_H70_48 : mo_f G H70 a0 48 = mo_f G H65 a0 48 := mo_f_F hf h0 (by decide) (by decide)
          have vv_H70_2 : mo_v G H70 a0 2 = mo_v G H65 a0 2 := mo_v_F (r := 48) hB.1 hf h0 rfl ro_48 (by decide) (by decide)
          have vv_H70_3 : mo_v G H70 a0 3 = mo_v G H65 a0 3 := mo_v_F (r := 49) hB.1 hf h0 rfl ro_49 (by decide) (by decide)
          have vv_H70_4 : mo_v G H70 a0 4 = mo_v G H65 a0 4 := mo_v_F (r := 50) hB.1 hf h0 rfl ro_50 (by decide) (by decide)
          have vv_H70_31 : mo_v G H70 a0 31 = mo_v G H65 a0 31 := mo_v_F (r := 61) hB.1 hf h0 rfl ro_61 (by decide) (by decide)
          have vv_H70_5 : mo_v G H70 a0 5 = mo_v G H65 a0 5 := mo_v_F (r := 51) hB.1 hf h0 rfl ro_51 (by decide) (by decide)
          have vv_H70_15 : mo_v G H70 a0 15 = mo_v G H65 a0 15 := mo_v_F (r := 55) hB.1 hf h0 rfl ro_55 (by decide) (by decide)
          have vv_H70_32 : mo_v G H70 a0 32 = mo_v G H65 a0 32 := mo_v_F (r := 62) hB.1 hf h0 rfl ro_62 (by decide) (by decide)
          replace hF := hF.trans (congrArg (dv_k f_X12_orders_27b) (dv_bn (dv_putI hB.1 h0 ro_46 (j := 28) rfl (th_apart hC cf_X12) hst70 tk_m1 (by decide))))
          refine lv_aload_n hx hb gX12_orders_5.2.1 rfl (lv_at hl 1 rfl) ?_
          refine lv_sipush (v := 2400) hx hb gX12_orders_5.2.2.1 (by decide) ?_
          refine th_put hC cf_X12 hB h0 (Or.inl h0) ro_46 rfl (j := 48) rfl th_sIa (by decide) rfl rfl rfl kf_X12_480 gX12_orders_5.2.2.2.1 (fun H77 locs hB hf hst77 => ?_)
          have mm6 := (th_F_o hf h0 ro_46 (j := 27) (by decide) (by decide)).trans mm5
          have hR := th_RN_F hB.1 hR h0 hf (th_T_s h0 ro_46 hst77) (by decide)
          have fv_H77_18 : mo_f G H77 a0 18 = mo_f G H70 a0 18 := mo_f_F hf h0 (by decide) (by decide)
          have fv_H77_33 : mo_f G H77 a0 33 = mo_f G H70 a0 33 := mo_f_F hf h0 (by decide) (by decide)
          have vv_H77_2 : mo_v G H77 a0 2 = mo_v G H70 a0 2 := mo_v_F (r := 48) hB.1 hf h0 rfl ro_48 (by decide) (by decide)
          have vv_H77_3 : mo_v G H77 a0 3 = mo_v G H70 a0 3 := mo_v_F (r := 49) hB.1 hf h0 rfl ro_49 (by decide) (by decide)
          have vv_H77_4 : mo_v G H77 a0 4 = mo_v G H70 a0 4 := mo_v_F (r := 50) hB.1 hf h0 rfl ro_50 (by decide) (by decide)
          have vv_H77_31 : mo_v G H77 a0 31 = mo_v G H70 a0 31 := mo_v_F (r := 61) hB.1 hf h0 rfl ro_61 (by decide) (by decide)
          have vv_H77_5 : mo_v G H77 a0 5 = mo_v G H70 a0 5 := mo_v_F (r := 51) hB.1 hf h0 rfl ro_51 (by decide) (by decide)
          have vv_H77_15 : mo_v G H77 a0 15 = mo_v G H70 a0 15 := mo_v_F (r := 55) hB.1 hf h0 rfl ro_55 (by decide) (by decide)
          have vv_H77_32 : mo_v G H77 a0 32 = mo_v G H70 a0 32 := mo_v_F (r := 62) hB.1 hf h0 rfl ro_62 (by decide) (by decide)
          replace hF := hF.trans (congrArg (dv_k f_X12_orders_27b) (dv_bn (dv_putI hB.1 h0 ro_46 (j := 48) rfl (th_apart hC cf_X12) hst77 tk_2400 (by decide))))
          have fp77 : mo_f G H77 a0 48 = 2400 := (mo_f_St hst77).trans tk_2400
          have mm7 := hst77.2.1
          refine lv_aload_n hx hb gX12_orders_5.2.2.2.2.1 rfl (lv_at hl 1 rfl) ?_
          refine th_getK hC cf_X12 hB.1 h0 ro_46 rfl (j := 48) (by decide) mm7 kf_X12_480 gX12_orders_5.2.2.2.2.2.1 ?_
          replace hF := hF.trans (congrArg (dv_k f_X12_orders_27b) (dv_bn ((dv_getI h0 ro_46 (j := 48) rfl mm7 (by decide)).trans tk_2400)))
          have fg8 : mo_f G H77 a0 48 = 2400 := (mo_fat mm7).trans tk_2400
          refine lv_aload_n hx hb gX12_orders_5.2.2.2.2.2.2.1 rfl (lv_at hl 1 rfl) ?_
          refine th_getO (j := 2) (r2 := 48) hC cf_X12 hB.1 h0 ro_46 rfl rfl kf_X12_28 gX12_orders_5.2.2.2.2.2.2.2 (fun b9 mb9 hb9 => ?_)
          refine lv_bipush (v := 79) hx hb gX12_orders_6.1 (by decide) ?_
          refine th_ialdF hC hB.1 hb9 ro_48 rfl tk_79 (by omega) (by omega) (ek_size (by omega) (by omega)) gX12_orders_6.2.1 (fun x10 mx10 lx10 ux10 => ?_)
          replace hF := hF.trans (congrArg (dv_k f_X12_orders_27b) (dv_bn (dv_aldI hB.1 hU hb9 ow_48 (z := 79) mx10 (by omega))))
          have vgx10 : mo_v G H77 a0 2 79 = x10.toInt := by rw [show (79 : Int) = 79 by omega]; exact mo_vat mb9 mx10 (by omega)
          have e90 : x10.toInt = nn := by rw [← vgx10, vv_H77_2, vv_H70_2, vv_H65_2, ly 79 (by omega), mo_ly_79]
          refine tr_iadd hx hb gX12_orders_6.2.2.1 tk_2400 (Eq.refl _) (by omega) (by omega) (fun x11 ex11 => ?_)
          replace hF := hF.trans (congrArg (dv_k f_X12_orders_27b) (dv_bn (ex11.symm)))
          refine lv_istore_n (lv' := [(2, .int x11), (1, .int x2), (0, .ref a0)]) hx hb gX12_orders_6.2.2.2.1 rfl hl (by decide) rfl (fun ls hl => ?_)
          refine lv_iconst (v := 0) hx hb gX12_orders_6.2.2.2.2.1 (by decide) ?_
          refine lv_istore_n (lv' := [(3, .int 0), (2, .int x11), (1, .int x2), (0, .ref a0)]) hx hb gX12_orders_6.2.2.2.2.2.1 rfl hl (by decide) rfl (fun ls hl => ?_)
          have lp95 : ∀ (n95 : Nat) (H95 : Heap) (locs : List Loc) (ls : Array Slot) (j95_3 : Int32), th_B G Γ Γ [(47, 0), (46, 0), (46, 19), (46, 20), (46, 21), (46, 18), (57, 0), (56, 0), (55, 0), (46, 13), (46, 14), (46, 8), (46, 9), (46, 10), (46, 22), (46, 24), (46, 23), (46, 25), (46, 49), (46, 50), (46, 51), (46, 52), (69, 0), (48, 0), (61, 0), (46, 33), (58, 0), (59, 0), (60, 0), (46, 28), (46, 27), (46, 48), (46, 47), (51, 0), (62, 0)] H0 H95 locs → th_RN a0 G Γ H95 → lv_has ls 5 [(2, .int x11), (1, .int x2), (0, .ref a0), (3, .int j95_3)] → F = dv_k f_X12_orders_27b (dv_lp f_X12_orders_95b (dv G Γ H95, x11.toInt, x2.toInt, (a0 : Int), j95_3.toInt)) → (∃ i : Int, mo_f G H95 a0 48 = 2400 + i ∧ 0 ≤ i ∧ (i = nn + 1 ∨ mo_chain T (mo_clause 1 T) (mo_is 159) i nn)) → (∀ z : Int, 29 ≤ z → mo_v G H95 a0 2 z = mo_v G H60 a0 2 z) → mo_v G H95 a0 5 = mo_v G H60 a0 5 → mo_v G H95 a0 32 = mo_v G H60 a0 32 → (2400 + nn + 3 - mo_f G H95 a0 48) ≤ (n95 : Int) → W p l e ({ frames := 75, cells := 0, slots := 0, locals := 2247 } : Room) s m ([.ref a0] : List Value).toArray below meth c H95 locs 0 0 (MQ below (th_Q (fun (v : Option Value) (H1 : Heap) => ∃ r : Int32, v = some (.int r) ∧ th_I G Γ H1 ∧ th_F G Γ [(47, 0), (46, 0), (46, 19), (46, 20), (46, 21), (46, 18), (57, 0), (56, 0), (55, 0), (46, 13), (46, 14), (46, 8), (46, 9), (46, 10), (46, 22), (46, 24), (46, 23), (46, 25), (46, 49), (46, 50), (46, 51), (46, 52), (69, 0), (48, 0), (61, 0), (46, 33), (58, 0), (59, 0), (60, 0), (46, 28), (46, 27), (46, 48), (46, 47), (51, 0), (62, 0)] H0 H1 ∧ th_RN a0 G Γ H1 ∧ (f_X12_orders (dv G Γ H0) (a0 : Int) = (dv G Γ H1, r.toInt))) G) ([.ref a0] : List Value).toArray s 0 0 (fun q => G.1.2.2 ≤ q)) (F0 m 95 ls []) := by
            intro n95
            induction n95 with
            | zero => intro H95 locs ls j95_3 hB hR hl hF g95_0 g95_1 g95_2 g95_3 hm95; exact absurd hm95 (by have := mo_lpt (mo_clause_lt _ _) g95_0; omega)
            | succ n95 ih95 =>
              intro H95 locs ls j95_3 hB hR hl hF g95_0 g95_1 g95_2 g95_3 hm95
              have lj95_3 := ti_lo j95_3; have uj95_3 := ti_hi j95_3
              have vw_H95_3 : mo_v G H95 a0 3 = mo_v G H0 a0 3 := mo_v_F (r := 49) hB.1 hB.2.2 h0 rfl ro_49 (by decide) (by decide)
              have vw_H95_4 : mo_v G H95 a0 4 = mo_v G H0 a0 4 := mo_v_F (r := 50) hB.1 hB.2.2 h0 rfl ro_50 (by decide) (by decide)
              have hm95 : (2400 + nn + 3 - mo_f G H95 a0 48) ≤ (n95 : Int) + 1 := by omega
              replace hF := hF.trans (congrArg (dv_k f_X12_orders_27b) (dv_lp_eq))
              replace hF := hF.trans (congrArg (dv_k f_X12_orders_27b) (congrArg (dv_k f_X12_orders_95b) (f_X12_orders_95c.eq_1 (dv G Γ H95) (x11.toInt) (x2.toInt) ((a0 : Int)) (j95_3.toInt))))
              refine lv_aload_n hx hb gX12_orders_6.2.2.2.2.2.2.1 rfl (lv_at hl 2 rfl) ?_
              obtain ⟨m6, a6, b6, r6⟩ := g95_0
              have B95 := g95_1
              have C95 := g95_2
              have D95 := g95_3
              refine th_getI (j := 48) hC cf_X12 hB.1 h0 ro_46 rfl rfl kf_X12_480 gX12_orders_6.2.2.2.2.2.2.2 (fun x12 mx12 lx12 ux12 => ?_)
              replace hF := hF.trans (congrArg (dv_k f_X12_orders_27b) (congrArg (dv_k f_X12_orders_95b) (dv_bn (dv_getI h0 ro_46 (j := 48) rfl mx12 (by decide)))))
              have fg13 : mo_f G H95 a0 48 = x12.toInt := mo_fat mx12
              refine lv_iload_n hx hb gX12_orders_7.1 rfl (lv_at hl 0 rfl) ?_
              refine tr_icmp_ge (tgt := 173) hx hb gX12_orders_7.2.1 (by decide) (Eq.refl _) (Eq.refl _) (fun c100 => ?_) (fun c100 => ?_)
              · replace hF := hF.trans (congrArg (dv_k f_X12_orders_27b) (congrArg (dv_k f_X12_orders_95b) (if_pos c100)))
                refine lv_aload_n hx hb gX12_orders_11.2.2.2.2.2.1 rfl (lv_at hl 2 rfl) ?_
                refine lv_aload_n hx hb gX12_orders_11.2.2.2.2.2.2.1 rfl (lv_at hl 2 rfl) ?_
                refine th_getI (j := 27) hC cf_X12 hB.1 h0 ro_46 rfl rfl kf_X12_317 gX12_orders_11.2.2.2.2.2.2.2 (fun x14 mx14 lx14 ux14 => ?_)
                replace hF := hF.trans (congrArg (dv_k f_X12_orders_27b) (congrArg (dv_k f_X12_orders_95b) (dv_bn (dv_getI h0 ro_46 (j := 27) rfl mx14 (by decide)))))
                refine th_call (th_runV (As := [.int x14]) (rest := []) hC mf_X12_good km_X12_14 im_X12_good se_X12_good (c_X12_good l G Γ H95 hB.1 hR.1 hU a0 h0 x14) rfl rfl ⟨Nat.le_of_ble_eq_true rfl, Nat.le_of_ble_eq_true rfl⟩ hB.1 h0 ro_46 rfl rfl hl.1 rfl (Nat.le_of_ble_eq_true rfl) gX12_orders_12.1 ⟨Nat.le_refl _, Nat.le_refl _⟩) hB.2.1 (fun v178 H178 locs hp hz hS => ?_)
                have hRD := hR
                obtain ⟨x15, rfl, q178_0, hI1, hf, hR, z178_0⟩ := hp
                have hR := th_RN_c hR hRD hI1 h0 hf (by decide)
                have hB := th_B_c hB hI1 hS hf (by decide)
                have mm16 := (th_F_o hf h0 ro_46 (j := 48) (by decide) (by decide)).trans mx12
                have fv_H178_18 : mo_f G H178 a0 18 = mo_f G H95 a0 18 := mo_f_F hf h0 (by decide) (by decide)
                have fv_H178_33 : mo_f G H178 a0 33 = mo_f G H95 a0 33 := mo_f_F hf h0 (by decide) (by decide)
                have fv_H178_48 : mo_f G H178 a0 48 = mo_f G H95 a0 48 := mo_f_F hf h0 (by decide) (by decide)
                have vv_H178_2 : mo_v G H178 a0 2 = mo_v G H95 a0 2 := mo_v_F (r := 48) hB.1 hf h0 rfl ro_48 (by decide) (by decide)
                have vv_H178_3 : mo_v G H178 a0 3 = mo_v G H95 a0 3 := mo_v_F (r := 49) hB.1 hf h0 rfl ro_49 (by decide) (by decide)
                have vv_H178_4 : mo_v G H178 a0 4 = mo_v G H95 a0 4 := mo_v_F (r := 50) hB.1 hf h0 rfl ro_50 (by decide) (by decide)
                have vv_H178_31 : mo_v G H178 a0 31 = mo_v G H95 a0 31 := mo_v_F (r := 61) hB.1 hf h0 rfl ro_61 (by decide) (by decide)
                have vv_H178_5 : mo_v G H178 a0 5 = mo_v G H95 a0 5 := mo_v_F (r := 51) hB.1 hf h0 rfl ro_51 (by decide) (by decide)
                have vv_H178_15 : mo_v G H178 a0 15 = mo_v G H95 a0 15 := mo_v_F (r := 55) hB.1 hf h0 rfl ro_55 (by decide) (by decide)
                have vv_H178_32 : mo_v G H178 a0 32 = mo_v G H95 a0 32 := mo_v_F (r := 62) hB.1 hf h0 rfl ro_62 (by decide) (by decide)
                replace hF := hF.trans (congrArg (dv_k f_X12_orders_27b) (congrArg (dv_k f_X12_orders_95b) (dv_bn2 (z178_0))))
                refine W.eq (g2 := F0 m 181 ls [.int x15]) rfl ?_
                replace hF := hF.trans (congrArg (dv_k f_X12_orders_27b) (dv_kr))
                replace hF := hF.trans (dv_kr)
                exact th_iret hC hH hr hlocks rfl hB.2.1 ⟨_, rfl, hB.1, hB.2.2, hR, (hF0.symm.trans hF)⟩ gX12_orders_12.2
              · replace hF := hF.trans (congrArg (dv_k f_X12_orders_27b) (congrArg (dv_k f_X12_orders_95b) (if_neg (Int.not_le.mpr c100))))
                refine lv_aload_n hx hb gX12_orders_7.2.2.1 rfl (lv_at hl 2 rfl) ?_
                refine lv_iload_n hx hb gX12_orders_7.2.2.2.1 rfl (lv_at hl 0 rfl) ?_
                have ch6 := r6.resolve_left (by omega)
                obtain ⟨j1, c1, r1⟩ := mo_chain_open ch6
                have lt1 := mo_clause_lt _ _ _ _ c1
                have le1 := mo_rest_le (mo_clause_lt _ _) r1
                have od : mo_ord T m6 j1 := by rcases c1 with ⟨q9, -⟩ | ⟨-, c1⟩; exact absurd q9 (by decide); exact c1
                refine th_call (th_runV (As := [.int x11]) (rest := []) hC mf_X12_runs km_X12_483 im_X12_runs se_X12_runs (c_X12_runs l G Γ H95 hB.1 hU a0 h0 hR x11 (by omega) (by omega) m6 j1 (by omega) ⟨by omega, by omega⟩ (by rw [mo_tf_29 B95 (by omega), show x11.toInt - 2400 = nn by omega, ← eT]; exact od)) rfl rfl ⟨Nat.le_of_ble_eq_true rfl, Nat.le_of_ble_eq_true rfl⟩ hB.1 h0 ro_46 rfl rfl hl.1 rfl (Nat.le_of_ble_eq_true rfl) gX12_orders_7.2.2.2.2.1 ⟨Nat.le_refl _, Nat.le_refl _⟩) hB.2.1 (fun v105 H105 locs hp hz hS => ?_)
                obtain ⟨x17, rfl, lx17, ux17, hI1, hf, hR, z105_0, z105_1, z105_2⟩ := hp
                have hB := th_B_c hB hI1 hS hf (by decide)
                have fv_H105_18 : mo_f G H105 a0 18 = mo_f G H95 a0 18 := mo_f_F hf h0 (by decide) (by decide)
                have vv_H105_3 : mo_v G H105 a0 3 = mo_v G H95 a0 3 := mo_v_F (r := 49) hB.1 hf h0 rfl ro_49 (by decide) (by decide)
                have vv_H105_4 : mo_v G H105 a0 4 = mo_v G H95 a0 4 := mo_v_F (r := 50) hB.1 hf h0 rfl ro_50 (by decide) (by decide)
                have vv_H105_5 : mo_v G H105 a0 5 = mo_v G H95 a0 5 := mo_v_F (r := 51) hB.1 hf h0 rfl ro_51 (by decide) (by decide)
                have vv_H105_15 : mo_v G H105 a0 15 = mo_v G H95 a0 15 := mo_v_F (r := 55) hB.1 hf h0 rfl ro_55 (by decide) (by decide)
                have vv_H105_32 : mo_v G H105 a0 32 = mo_v G H95 a0 32 := mo_v_F (r := 62) hB.1 hf h0 rfl ro_62 (by decide) (by decide)
                replace hF := hF.trans (congrArg (dv_k f_X12_orders_27b) (congrArg (dv_k f_X12_orders_95b) (dv_bn2 (z105_2))))
                refine W.eq (g2 := F0 m 108 ls [.int x17]) rfl ?_
                refine tr_if_eq (tgt := 114) hx hb gX12_orders_7.2.2.2.2.2.1 (by decide) (Eq.refl _) (fun c108 => ?_) (fun c108 => ?_)
                · replace hF := hF.trans (congrArg (dv_k f_X12_orders_27b) (congrArg (dv_k f_X12_orders_95b) (if_pos c108)))
                  refine lv_aload_n hx hb gX12_orders_7.2.2.2.2.2.2.2 rfl (lv_at hl 2 rfl) ?_
                  refine lv_iconst (v := 1) hx hb gX12_orders_8.1 (by decide) ?_
                  refine th_call (th_runV (As := [.int 1]) (rest := []) hC mf_X12_takesBack km_X12_486 im_X12_takesBack se_X12_takesBack (c_X12_takesBack l G Γ H105 hB.1 hU a0 h0 (th_NE hR) 1 (by decide) (by decide)) rfl rfl ⟨Nat.le_of_ble_eq_true rfl, Nat.le_of_ble_eq_true rfl⟩ hB.1 h0 ro_46 rfl rfl hl.1 rfl (Nat.le_of_ble_eq_true rfl) gX12_orders_8.2.1 ⟨Nat.le_refl _, Nat.le_refl _⟩) hB.2.1 (fun v116 H116 locs hp hz hS => ?_)
                  have hRD := hR
                  obtain ⟨rfl, hI1, hf, hR, z116_0, z116_1⟩ := hp
                  have hRc116 := hR
                  have hR := hRD
                  have hRC := hRc116.1
                  have hB := th_B_c hB hI1 hS hf (by decide)
                  have fv_H116_18 : mo_f G H116 a0 18 = mo_f G H105 a0 18 := mo_f_F hf h0 (by decide) (by decide)
                  have fv_H116_33 : mo_f G H116 a0 33 = mo_f G H105 a0 33 := mo_f_F hf h0 (by decide) (by decide)
                  have fv_H116_48 : mo_f G H116 a0 48 = mo_f G H105 a0 48 := mo_f_F hf h0 (by decide) (by decide)
                  have vv_H116_3 : mo_v G H116 a0 3 = mo_v G H105 a0 3 := mo_v_F (r := 49) hB.1 hf h0 rfl ro_49 (by decide) (by decide)
                  have vv_H116_4 : mo_v G H116 a0 4 = mo_v G H105 a0 4 := mo_v_F (r := 50) hB.1 hf h0 rfl ro_50 (by decide) (by decide)
                  have vv_H116_31 : mo_v G H116 a0 31 = mo_v G H105 a0 31 := mo_v_F (r := 61) hB.1 hf h0 rfl ro_61 (by decide) (by decide)
                  have vv_H116_5 : mo_v G H116 a0 5 = mo_v G H105 a0 5 := mo_v_F (r := 51) hB.1 hf h0 rfl ro_51 (by decide) (by decide)
                  have vv_H116_15 : mo_v G H116 a0 15 = mo_v G H105 a0 15 := mo_v_F (r := 55) hB.1 hf h0 rfl ro_55 (by decide) (by decide)
                  have vv_H116_32 : mo_v G H116 a0 32 = mo_v G H105 a0 32 := mo_v_F (r := 62) hB.1 hf h0 rfl ro_62 (by decide) (by decide)
                  have zf116 := z116_1
                  rw [tk_1] at zf116
                  replace hF := hF.trans (congrArg (dv_k f_X12_orders_27b) (congrArg (dv_k f_X12_orders_95b) (dv_bn2 (zf116))))
                  refine W.eq (g2 := F0 m 119 ls []) rfl ?_
                  have hR := hRc116
                  refine lv_iconst (v := 0) hx hb gX12_orders_8.2.2.1 (by decide) ?_
                  refine lv_istore (lv' := [(4, .int 0), (2, .int x11), (1, .int x2), (0, .ref a0), (3, .int j95_3)]) hx hb gX12_orders_8.2.2.2.1 hl (by decide) rfl (fun ls hl => ?_)
                  have lp122 : ∀ (n122 : Nat) (H122 : Heap) (locs : List Loc) (ls : Array Slot) (j122_4 : Int32), th_B G Γ Γ [(47, 0), (46, 0), (46, 19), (46, 20), (46, 21), (46, 18), (57, 0), (56, 0), (55, 0), (46, 13), (46, 14), (46, 8), (46, 9), (46, 10), (46, 22), (46, 24), (46, 23), (46, 25), (46, 49), (46, 50), (46, 51), (46, 52), (69, 0), (48, 0), (61, 0), (46, 33), (58, 0), (59, 0), (60, 0), (46, 28), (46, 27), (46, 48), (46, 47), (51, 0), (62, 0)] H0 H122 locs → th_RE a0 G Γ H122 → lv_has ls 5 [(1, .int x2), (0, .ref a0), (3, .int j95_3), (4, .int j122_4)] → F = dv_k f_X12_orders_27b (dv_k f_X12_orders_95b (dv_lp f_X12_orders_122b (dv G Γ H122, x2.toInt, (a0 : Int), j95_3.toInt, j122_4.toInt))) → 0 ≤ j122_4.toInt → j122_4.toInt ≤ 480 → (∀ z : Int, 0 ≤ z → z < j122_4.toInt → mo_v G H122 a0 31 z = mo_v G H60 a0 32 z) → mo_v G H122 a0 2 = mo_v G H116 a0 2 → mo_v G H122 a0 32 = mo_v G H60 a0 32 → (2147483648 : Int) - j122_4.toInt ≤ (n122 : Int) → W p l e ({ frames := 75, cells := 0, slots := 0, locals := 2247 } : Room) s m ([.ref a0] : List Value).toArray below meth c H122 locs 0 0 (MQ below (th_Q (fun (v : Option Value) (H1 : Heap) => ∃ r : Int32, v = some (.int r) ∧ th_I G Γ H1 ∧ th_F G Γ [(47, 0), (46, 0), (46, 19), (46, 20), (46, 21), (46, 18), (57, 0), (56, 0), (55, 0), (46, 13), (46, 14), (46, 8), (46, 9), (46, 10), (46, 22), (46, 24), (46, 23), (46, 25), (46, 49), (46, 50), (46, 51), (46, 52), (69, 0), (48, 0), (61, 0), (46, 33), (58, 0), (59, 0), (60, 0), (46, 28), (46, 27), (46, 48), (46, 47), (51, 0), (62, 0)] H0 H1 ∧ th_RN a0 G Γ H1 ∧ (f_X12_orders (dv G Γ H0) (a0 : Int) = (dv G Γ H1, r.toInt))) G) ([.ref a0] : List Value).toArray s 0 0 (fun q => G.1.2.2 ≤ q)) (F0 m 122 ls []) := by
                    intro n122
                    induction n122 with
                    | zero => intro H122 locs ls j122_4 hB hR hl hF g122_0 g122_1 g122_2 g122_3 g122_4 hm122; exact absurd hm122 (by have := ti_hi j122_4; omega)
                    | succ n122 ih122 =>
                      intro H122 locs ls j122_4 hB hR hl hF g122_0 g122_1 g122_2 g122_3 g122_4 hm122
                      have lj122_4 := ti_lo j122_4; have uj122_4 := ti_hi j122_4
                      have vw_H122_3 : mo_v G H122 a0 3 = mo_v G H0 a0 3 := mo_v_F (r := 49) hB.1 hB.2.2 h0 rfl ro_49 (by decide) (by decide)
                      have vw_H122_4 : mo_v G H122 a0 4 = mo_v G H0 a0 4 := mo_v_F (r := 50) hB.1 hB.2.2 h0 rfl ro_50 (by decide) (by decide)
                      have hm122 : (2147483648 : Int) - j122_4.toInt ≤ (n122 : Int) + 1 := by omega
                      replace hF := hF.trans (congrArg (dv_k f_X12_orders_27b) (congrArg (dv_k f_X12_orders_95b) (dv_lp_eq)))
                      replace hF := hF.trans (congrArg (dv_k f_X12_orders_27b) (congrArg (dv_k f_X12_orders_95b) (congrArg (dv_k f_X12_orders_122b) (f_X12_orders_122c.eq_1 (dv G Γ H122) (x2.toInt) ((a0 : Int)) (j95_3.toInt) (j122_4.toInt)))))
                      refine lv_iload hx hb gX12_orders_8.2.2.2.2.1 (lv_at hl 3 rfl) ?_
                      refine lv_sipush (v := 480) hx hb gX12_orders_8.2.2.2.2.2.1 (by decide) ?_
                      refine tr_icmp_ge (tgt := 150) hx hb gX12_orders_8.2.2.2.2.2.2.1 (by decide) (Eq.refl _) tk_480 (fun c127 => ?_) (fun c127 => ?_)
                      · replace hF := hF.trans (congrArg (dv_k f_X12_orders_27b) (congrArg (dv_k f_X12_orders_95b) (congrArg (dv_k f_X12_orders_122b) (if_pos c127))))
                        refine lv_aload_n hx hb gX12_orders_10.2.1 rfl (lv_at hl 1 rfl) ?_
                        refine lv_iload_n hx hb gX12_orders_10.2.2.1 rfl (lv_at hl 0 rfl) ?_
                        refine th_put hC cf_X12 hB h0 (Or.inl h0) ro_46 rfl (j := 33) rfl (th_sI (by omega) (by omega)) (by decide) rfl rfl rfl kf_X12_11 gX12_orders_10.2.2.2.1 (fun H152 locs hB hf hst152 => ?_)
                        have hR := th_RE_F hB.1 hR h0 hf (th_T_s h0 ro_46 hst152) (by decide)
                        have fv_H152_18 : mo_f G H152 a0 18 = mo_f G H122 a0 18 := mo_f_F hf h0 (by decide) (by decide)
                        have fv_H152_48 : mo_f G H152 a0 48 = mo_f G H122 a0 48 := mo_f_F hf h0 (by decide) (by decide)
                        have vv_H152_2 : mo_v G H152 a0 2 = mo_v G H122 a0 2 := mo_v_F (r := 48) hB.1 hf h0 rfl ro_48 (by decide) (by decide)
                        have vv_H152_3 : mo_v G H152 a0 3 = mo_v G H122 a0 3 := mo_v_F (r := 49) hB.1 hf h0 rfl ro_49 (by decide) (by decide)
                        have vv_H152_4 : mo_v G H152 a0 4 = mo_v G H122 a0 4 := mo_v_F (r := 50) hB.1 hf h0 rfl ro_50 (by decide) (by decide)
                        have vv_H152_31 : mo_v G H152 a0 31 = mo_v G H122 a0 31 := mo_v_F (r := 61) hB.1 hf h0 rfl ro_61 (by decide) (by decide)
                        have vv_H152_5 : mo_v G H152 a0 5 = mo_v G H122 a0 5 := mo_v_F (r := 51) hB.1 hf h0 rfl ro_51 (by decide) (by decide)
                        have vv_H152_15 : mo_v G H152 a0 15 = mo_v G H122 a0 15 := mo_v_F (r := 55) hB.1 hf h0 rfl ro_55 (by decide) (by decide)
                        have vv_H152_32 : mo_v G H152 a0 32 = mo_v G H122 a0 32 := mo_v_F (r := 62) hB.1 hf h0 rfl ro_62 (by decide) (by decide)
                        replace hF := hF.trans (congrArg (dv_k f_X12_orders_27b) (congrArg (dv_k f_X12_orders_95b) (congrArg (dv_k f_X12_orders_122b) (dv_bn (dv_putI hB.1 h0 ro_46 (j := 33) rfl (th_apart hC cf_X12) hst152 (Eq.refl _) (by decide))))))
                        have fp152 : mo_f G H152 a0 33 = x2.toInt := mo_f_St hst152
                        refine lv_aload_n hx hb gX12_orders_10.2.2.2.2.1 rfl (lv_at hl 1 rfl) ?_
                        refine lv_iload_n hx hb gX12_orders_10.2.2.2.2.2.1 rfl (lv_at hl 2 rfl) ?_
                        refine th_put hC cf_X12 hB h0 (Or.inl h0) ro_46 rfl (j := 47) rfl th_sIa (by decide) rfl rfl rfl kf_X12_97 gX12_orders_10.2.2.2.2.2.2.1 (fun H157 locs hB hf hst157 => ?_)
                        have hR := th_RE_F hB.1 hR h0 hf (th_T_s h0 ro_46 hst157) (by decide)
                        have fv_H157_18 : mo_f G H157 a0 18 = mo_f G H152 a0 18 := mo_f_F hf h0 (by decide) (by decide)
                        have fv_H157_33 : mo_f G H157 a0 33 = mo_f G H152 a0 33 := mo_f_F hf h0 (by decide) (by decide)
                        have fv_H157_48 : mo_f G H157 a0 48 = mo_f G H152 a0 48 := mo_f_F hf h0 (by decide) (by decide)
                        have vv_H157_2 : mo_v G H157 a0 2 = mo_v G H152 a0 2 := mo_v_F (r := 48) hB.1 hf h0 rfl ro_48 (by decide) (by decide)
                        have vv_H157_3 : mo_v G H157 a0 3 = mo_v G H152 a0 3 := mo_v_F (r := 49) hB.1 hf h0 rfl ro_49 (by decide) (by decide)
                        have vv_H157_4 : mo_v G H157 a0 4 = mo_v G H152 a0 4 := mo_v_F (r := 50) hB.1 hf h0 rfl ro_50 (by decide) (by decide)
                        have vv_H157_31 : mo_v G H157 a0 31 = mo_v G H152 a0 31 := mo_v_F (r := 61) hB.1 hf h0 rfl ro_61 (by decide) (by decide)
                        have vv_H157_5 : mo_v G H157 a0 5 = mo_v G H152 a0 5 := mo_v_F (r := 51) hB.1 hf h0 rfl ro_51 (by decide) (by decide)
                        have vv_H157_15 : mo_v G H157 a0 15 = mo_v G H152 a0 15 := mo_v_F (r := 55) hB.1 hf h0 rfl ro_55 (by decide) (by decide)
                        have vv_H157_32 : mo_v G H157 a0 32 = mo_v G H152 a0 32 := mo_v_F (r := 62) hB.1 hf h0 rfl ro_62 (by decide) (by decide)
                        replace hF := hF.trans (congrArg (dv_k f_X12_orders_27b) (congrArg (dv_k f_X12_orders_95b) (congrArg (dv_k f_X12_orders_122b) (dv_bn (dv_putI hB.1 h0 ro_46 (j := 47) rfl (th_apart hC cf_X12) hst157 (Eq.refl _) (by decide))))))
                        have kz : ∀ z : Int, 0 ≤ z → mo_v G H157 a0 2 z = mo_v G H60 a0 2 z := fun z a9 => by rw [vv_H157_2, vv_H152_2, g122_3, z116_0 z]; by_cases q9 : 0 ≤ z ∧ z < 29; rw [if_pos q9, vv_H105_5, C95, vv_H60_5, sr27.2.1, show 29 * (1 : Int32).toInt + z = 29 * (1 : Int32).toInt + z from rfl, z22_0 z (by omega) (by omega), ly z (by omega), mo_ly_0 (by omega) (by omega), sr27.1, vv_H22_2]; rw [if_neg q9, z105_0 z (by omega)]; exact B95 z (by omega)
                        have lz : ∀ z : Int, 0 ≤ z → z < 480 → mo_v G H157 a0 31 z = mo_v G H60 a0 31 z := fun z a9 b9 => by rw [vv_H157_31, vv_H152_31, g122_2 z a9 (by omega), vv_H60_32, la27 z a9 (by omega), vv_H60_31, sr27.2.2.2.1]
                        have hR : th_RN a0 G Γ H157 := ⟨hR.1, by rw [(mo_v_F (j := 3) (r := 49) hB.1 hB.2.2 h0 rfl ro_49 (by decide) (by decide) : mo_v G H157 a0 3 = _), ← (mo_v_F (j := 3) (r := 49) hB60.1 hB60.2.2 h0 rfl ro_49 (by decide) (by decide) : mo_v G H60 a0 3 = _), (mo_v_F (j := 4) (r := 50) hB.1 hB.2.2 h0 rfl ro_50 (by decide) (by decide) : mo_v G H157 a0 4 = _), ← (mo_v_F (j := 4) (r := 50) hB60.1 hB60.2.2 h0 rfl ro_50 (by decide) (by decide) : mo_v G H60 a0 4 = _), show mo_f G H157 a0 33 = mo_f G H60 a0 33 by omega]; exact mo_ok_l (mo_ok_29 hR60.2 (fun i hi => kz i (by omega)) (mo_geo_ext (fun i a9 b9 => kz i a9) hR60.2.1.2.1)) (mo_f_rg hB60.1 h0 (j := 33) rfl).2 lz⟩
                        refine lv_aload_n hx hb gX12_orders_10.2.2.2.2.2.2.2 rfl (lv_at hl 1 rfl) ?_
                        refine lv_bipush (v := (-3)) hx hb gX12_orders_11.1 (by decide) ?_
                        refine th_call (th_runV (As := [.int (-3)]) (rest := []) hC mf_X12_refuses km_X12_109 im_X12_refuses se_X12_refuses (c_X12_refuses l G Γ H157 hB.1 hR.1 hU a0 h0 (-3) (by decide) (by decide)) rfl rfl ⟨Nat.le_of_ble_eq_true rfl, Nat.le_of_ble_eq_true rfl⟩ hB.1 h0 ro_46 rfl rfl hl.1 rfl (Nat.le_of_ble_eq_true rfl) gX12_orders_11.2.1 ⟨Nat.le_refl _, Nat.le_refl _⟩) hB.2.1 (fun v163 H163 locs hp hz hS => ?_)
                        have hRD := hR
                        obtain ⟨x18, rfl, q163_0, hI1, hf, hR, z163_0⟩ := hp
                        have hR := th_RN_c hR hRD hI1 h0 hf (by decide)
                        have hB := th_B_c hB hI1 hS hf (by decide)
                        have fv_H163_18 : mo_f G H163 a0 18 = mo_f G H157 a0 18 := mo_f_F hf h0 (by decide) (by decide)
                        have fv_H163_33 : mo_f G H163 a0 33 = mo_f G H157 a0 33 := mo_f_F hf h0 (by decide) (by decide)
                        have fv_H163_48 : mo_f G H163 a0 48 = mo_f G H157 a0 48 := mo_f_F hf h0 (by decide) (by decide)
                        have vv_H163_2 : mo_v G H163 a0 2 = mo_v G H157 a0 2 := mo_v_F (r := 48) hB.1 hf h0 rfl ro_48 (by decide) (by decide)
                        have vv_H163_3 : mo_v G H163 a0 3 = mo_v G H157 a0 3 := mo_v_F (r := 49) hB.1 hf h0 rfl ro_49 (by decide) (by decide)
                        have vv_H163_4 : mo_v G H163 a0 4 = mo_v G H157 a0 4 := mo_v_F (r := 50) hB.1 hf h0 rfl ro_50 (by decide) (by decide)
                        have vv_H163_31 : mo_v G H163 a0 31 = mo_v G H157 a0 31 := mo_v_F (r := 61) hB.1 hf h0 rfl ro_61 (by decide) (by decide)
                        have vv_H163_5 : mo_v G H163 a0 5 = mo_v G H157 a0 5 := mo_v_F (r := 51) hB.1 hf h0 rfl ro_51 (by decide) (by decide)
                        have vv_H163_15 : mo_v G H163 a0 15 = mo_v G H157 a0 15 := mo_v_F (r := 55) hB.1 hf h0 rfl ro_55 (by decide) (by decide)
                        have vv_H163_32 : mo_v G H163 a0 32 = mo_v G H157 a0 32 := mo_v_F (r := 62) hB.1 hf h0 rfl ro_62 (by decide) (by decide)
                        have w163_0 := tk_m3
                        have zf163 := z163_0
                        rw [tk_m3] at zf163
                        replace hF := hF.trans (congrArg (dv_k f_X12_orders_27b) (congrArg (dv_k f_X12_orders_95b) (congrArg (dv_k f_X12_orders_122b) (dv_bn2 (zf163)))))
                        refine W.eq (g2 := F0 m 166 ls [.int x18]) rfl ?_
                        replace hF := hF.trans (congrArg (dv_k f_X12_orders_27b) (congrArg (dv_k f_X12_orders_95b) (dv_kr)))
                        replace hF := hF.trans (congrArg (dv_k f_X12_orders_27b) (dv_kr))
                        replace hF := hF.trans (dv_kr)
                        exact th_iret hC hH hr hlocks rfl hB.2.1 ⟨_, rfl, hB.1, hB.2.2, hR, (hF0.symm.trans hF)⟩ gX12_orders_11.2.2.1
                      · replace hF := hF.trans (congrArg (dv_k f_X12_orders_27b) (congrArg (dv_k f_X12_orders_95b) (congrArg (dv_k f_X12_orders_122b) (if_neg (Int.not_le.mpr c127)))))
                        refine lv_aload_n hx hb gX12_orders_8.2.2.2.2.2.2.2 rfl (lv_at hl 1 rfl) ?_
                        refine th_getO (j := 31) (r2 := 61) hC cf_X12 hB.1 h0 ro_46 rfl rfl kf_X12_72 gX12_orders_9.1 (fun b19 mb19 hb19 => ?_)
                        have sb19 := (th_F_o hB.2.2 h0 ro_46 (j := 31) (by decide) (by decide)).symm.trans mb19
                        refine lv_iload hx hb gX12_orders_9.2.1 (lv_at hl 3 rfl) ?_
                        refine lv_aload_n hx hb gX12_orders_9.2.2.1 rfl (lv_at hl 1 rfl) ?_
                        refine th_getO (j := 32) (r2 := 62) hC cf_X12 hB.1 h0 ro_46 rfl rfl kf_X12_75 gX12_orders_9.2.2.2.1 (fun b20 mb20 hb20 => ?_)
                        have sb20 := (th_F_o hB.2.2 h0 ro_46 (j := 32) (by decide) (by decide)).symm.trans mb20
                        refine lv_iload hx hb gX12_orders_9.2.2.2.2.1 (lv_at hl 3 rfl) ?_
                        refine th_ialdF hC hB.1 hb20 ro_62 rfl (Eq.refl _) (by omega) (by omega) rfl gX12_orders_9.2.2.2.2.2.1 (fun x21 mx21 lx21 ux21 => ?_)
                        replace hF := hF.trans (congrArg (dv_k f_X12_orders_27b) (congrArg (dv_k f_X12_orders_95b) (congrArg (dv_k f_X12_orders_122b) (dv_bn (dv_aldI hB.1 hU hb20 ow_62 (z := j122_4.toInt) mx21 (by omega))))))
                        have vgx21 : mo_v G H122 a0 32 j122_4.toInt = x21.toInt := by rw [show (j122_4.toInt : Int) = j122_4.toInt by omega]; exact mo_vat mb20 mx21 (by omega)
                        have hIo := hB.1
                        refine th_iastF hC hB hb19 (Or.inl hb19) ro_61 rfl (by decide) (Eq.refl _) (by omega) (by omega) th_sIa gX12_orders_9.2.2.2.2.2.2.1 (fun H143 locs hB hf143 hst143 => ?_)
                        have hf := hf143
                        have mm22 := (th_F_o hf h0 ro_46 (j := 31) (by decide) (by decide)).trans mb19
                        have mm23 := (th_F_o hf h0 ro_46 (j := 32) (by decide) (by decide)).trans mb20
                        have hR := th_RE_F hB.1 hR h0 hf (th_T_s hb19 ro_61 hst143) (by decide)
                        have fv_H143_18 : mo_f G H143 a0 18 = mo_f G H122 a0 18 := mo_f_F hf h0 (by decide) (by decide)
                        have fv_H143_33 : mo_f G H143 a0 33 = mo_f G H122 a0 33 := mo_f_F hf h0 (by decide) (by decide)
                        have fv_H143_48 : mo_f G H143 a0 48 = mo_f G H122 a0 48 := mo_f_F hf h0 (by decide) (by decide)
                        have vv_H143_2 : mo_v G H143 a0 2 = mo_v G H122 a0 2 := mo_v_F (r := 48) hB.1 hf h0 rfl ro_48 (by decide) (by decide)
                        have vv_H143_3 : mo_v G H143 a0 3 = mo_v G H122 a0 3 := mo_v_F (r := 49) hB.1 hf h0 rfl ro_49 (by decide) (by decide)
                        have vv_H143_4 : mo_v G H143 a0 4 = mo_v G H122 a0 4 := mo_v_F (r := 50) hB.1 hf h0 rfl ro_50 (by decide) (by decide)
                        have vv_H143_5 : mo_v G H143 a0 5 = mo_v G H122 a0 5 := mo_v_F (r := 51) hB.1 hf h0 rfl ro_51 (by decide) (by decide)
                        have vv_H143_15 : mo_v G H143 a0 15 = mo_v G H122 a0 15 := mo_v_F (r := 55) hB.1 hf h0 rfl ro_55 (by decide) (by decide)
                        have vv_H143_32 : mo_v G H143 a0 32 = mo_v G H122 a0 32 := mo_v_F (r := 62) hB.1 hf h0 rfl ro_62 (by decide) (by decide)
                        replace hF := hF.trans (congrArg (dv_k f_X12_orders_27b) (congrArg (dv_k f_X12_orders_95b) (congrArg (dv_k f_X12_orders_122b) (dv_bn (dv_stoI hIo hB.1 hU hb19 ow_61 (i := j122_4.toInt) hst143 (Eq.refl _) (by omega))))))
                        have vs143 : mo_v G H143 a0 31 = mo_u (mo_v G H122 a0 31) j122_4.toInt x21.toInt := by rw [show (j122_4.toInt : Int) = j122_4.toInt by omega]; exact mo_v_st h0 hb19 (by decide) mb19 hst143 (by omega)
                        refine tr_iinc (fun x24 => [(4, .int x24), (1, .int x2), (0, .ref a0), (3, .int j95_3)]) hx hb gX12_orders_9.2.2.2.2.2.2.2 hl (k := 3) rfl (Eq.refl _) tk_1 (by omega) (by omega) (by decide) (fun _ => rfl) (fun x24 ls ex24 hl => ?_)
                        replace hF := hF.trans (congrArg (dv_k f_X12_orders_27b) (congrArg (dv_k f_X12_orders_95b) (congrArg (dv_k f_X12_orders_122b) (dv_bn (ex24.symm)))))
                        refine lv_goto (tgt := 122) hx hb gX12_orders_10.1 (by decide) ?_
                        replace hF := hF.trans (congrArg (dv_k f_X12_orders_27b) (congrArg (dv_k f_X12_orders_95b) (dv_kl)))
                        exact ih122 H143 locs ls x24 hB hR (lv_sub hl [1, 2, 3, 0] rfl) hF (by omega) (by omega) (fun z a9 b9 => by rw [vs143]; by_cases q9 : z = j122_4.toInt; rw [mo_us q9, q9, ← g122_4, ← vgx21]; rw [mo_un q9]; exact g122_2 z a9 (by omega)) (vv_H143_2.trans g122_3) (vv_H143_32.trans g122_4) (by omega)
                  exact lp122 ((2147483648 : Int) - (0)).toNat H116 locs ls 0 hB hR (lv_sub hl [2, 3, 4, 0] rfl) (by rw [tk_0]; exact hF) (by decide) (by decide) (fun z a9 b9 => by have w0 := tk_0; omega) rfl (by rw [vv_H116_32, vv_H105_32]; exact D95) (by have w0 := tk_0; omega)
                · replace hF := hF.trans (congrArg (dv_k f_X12_orders_27b) (congrArg (dv_k f_X12_orders_95b) (if_neg c108)))
                  refine lv_goto (tgt := 167) hx hb gX12_orders_7.2.2.2.2.2.2.1 (by decide) ?_
                  refine tr_iincE (fun x25 => [(3, .int x25), (2, .int x11), (1, .int x2), (0, .ref a0)]) hx hb gX12_orders_11.2.2.2.1 hl (k := 3) rfl (Eq.refl _) (by decide) (fun _ => rfl) (fun x25 ls ex25 hl => ?_)
                  have lx25 := ti_lo x25; have ux25 := ti_hi x25
                  replace hF := hF.trans (congrArg (dv_k f_X12_orders_27b) (congrArg (dv_k f_X12_orders_95b) (dv_bn (ex25))))
                  refine lv_goto (tgt := 95) hx hb gX12_orders_11.2.2.2.2.1 (by decide) ?_
                  replace hF := hF.trans (congrArg (dv_k f_X12_orders_27b) (dv_kl))
                  exact ih95 H105 locs ls x25 hB hR (lv_sub hl [1, 2, 3, 0] rfl) hF ⟨j1 + 1, by have q9 := z105_1 (by omega); omega, by omega, by rcases r1 with ⟨q9, -⟩ | ⟨-, q9⟩; exact Or.inl (by omega); exact Or.inr q9⟩ (fun z a9 => by rw [z105_0 z a9]; exact g95_1 z a9) (vv_H105_5.trans g95_2) (vv_H105_32.trans g95_3) (by omega)
          exact lp95 ((2400 + nn + 3 - mo_f G H77 a0 48)).toNat H77 locs ls 0 hB hR (lv_sub hl [1, 2, 3, 0] rfl) (by rw [tk_0]; exact hF) ⟨0, by omega, by omega, Or.inr TX⟩ (fun z a9 => by rw [vv_H77_2, vv_H70_2, vv_H65_2]) (by rw [vv_H77_5, vv_H70_5, vv_H65_5]) (by rw [vv_H77_32, vv_H70_32, vv_H65_32]) (by have w0 := tk_0; omega)
        · replace hF := hF.trans (congrArg (dv_k f_X12_orders_27b) (if_neg (Int.not_le.mpr c31)))
          refine lv_aload_n hx hb gX12_orders_2.2.2.2.1 rfl (lv_at hl 0 rfl) ?_
          refine th_getO (j := 32) (r2 := 62) hC cf_X12 hB.1 h0 ro_46 rfl rfl kf_X12_75 gX12_orders_2.2.2.2.2.1 (fun b26 mb26 hb26 => ?_)
          have sb26 := (th_F_o hB.2.2 h0 ro_46 (j := 32) (by decide) (by decide)).symm.trans mb26
          refine lv_iload_n hx hb gX12_orders_2.2.2.2.2.2.1 rfl (lv_at hl 1 rfl) ?_
          refine lv_aload_n hx hb gX12_orders_2.2.2.2.2.2.2.1 rfl (lv_at hl 0 rfl) ?_
          refine th_getO (j := 31) (r2 := 61) hC cf_X12 hB.1 h0 ro_46 rfl rfl kf_X12_72 gX12_orders_2.2.2.2.2.2.2.2 (fun b27 mb27 hb27 => ?_)
          have sb27 := (th_F_o hB.2.2 h0 ro_46 (j := 31) (by decide) (by decide)).symm.trans mb27
          refine lv_iload_n hx hb gX12_orders_3.1 rfl (lv_at hl 1 rfl) ?_
          refine th_ialdF hC hB.1 hb27 ro_61 rfl (Eq.refl _) (by omega) (by omega) rfl gX12_orders_3.2.1 (fun x28 mx28 lx28 ux28 => ?_)
          replace hF := hF.trans (congrArg (dv_k f_X12_orders_27b) (dv_bn (dv_aldI hB.1 hU hb27 ow_61 (z := j27_1.toInt) mx28 (by omega))))
          have vgx28 : mo_v G H27 a0 31 j27_1.toInt = x28.toInt := by rw [show (j27_1.toInt : Int) = j27_1.toInt by omega]; exact mo_vat mb27 mx28 (by omega)
          have hIo := hB.1
          refine th_iastF hC hB hb26 (Or.inl hb26) ro_62 rfl (by decide) (Eq.refl _) (by omega) (by omega) th_sIa gX12_orders_3.2.2.1 (fun H45 locs hB hf45 hst45 => ?_)
          have hf := hf45
          have mm29 := (th_F_o hf h0 ro_46 (j := 32) (by decide) (by decide)).trans mb26
          have mm30 := (th_F_o hf h0 ro_46 (j := 31) (by decide) (by decide)).trans mb27
          have hR := th_RN_F hB.1 hR h0 hf (th_T_s hb26 ro_62 hst45) (by decide)
          have fv_H45_18 : mo_f G H45 a0 18 = mo_f G H27 a0 18 := mo_f_F hf h0 (by decide) (by decide)
          have fv_H45_33 : mo_f G H45 a0 33 = mo_f G H27 a0 33 := mo_f_F hf h0 (by decide) (by decide)
          have fv_H45_48 : mo_f G H45 a0 48 = mo_f G H27 a0 48 := mo_f_F hf h0 (by decide) (by decide)
          have vv_H45_2 : mo_v G H45 a0 2 = mo_v G H27 a0 2 := mo_v_F (r := 48) hB.1 hf h0 rfl ro_48 (by decide) (by decide)
          have vv_H45_3 : mo_v G H45 a0 3 = mo_v G H27 a0 3 := mo_v_F (r := 49) hB.1 hf h0 rfl ro_49 (by decide) (by decide)
          have vv_H45_4 : mo_v G H45 a0 4 = mo_v G H27 a0 4 := mo_v_F (r := 50) hB.1 hf h0 rfl ro_50 (by decide) (by decide)
          have vv_H45_31 : mo_v G H45 a0 31 = mo_v G H27 a0 31 := mo_v_F (r := 61) hB.1 hf h0 rfl ro_61 (by decide) (by decide)
          have vv_H45_5 : mo_v G H45 a0 5 = mo_v G H27 a0 5 := mo_v_F (r := 51) hB.1 hf h0 rfl ro_51 (by decide) (by decide)
          have vv_H45_15 : mo_v G H45 a0 15 = mo_v G H27 a0 15 := mo_v_F (r := 55) hB.1 hf h0 rfl ro_55 (by decide) (by decide)
          replace hF := hF.trans (congrArg (dv_k f_X12_orders_27b) (dv_bn (dv_stoI hIo hB.1 hU hb26 ow_62 (i := j27_1.toInt) hst45 (Eq.refl _) (by omega))))
          have vs45 : mo_v G H45 a0 32 = mo_u (mo_v G H27 a0 32) j27_1.toInt x28.toInt := by rw [show (j27_1.toInt : Int) = j27_1.toInt by omega]; exact mo_v_st h0 hb26 (by decide) mb26 hst45 (by omega)
          refine tr_iinc (fun x31 => [(1, .int x31), (0, .ref a0)]) hx hb gX12_orders_3.2.2.2.1 hl (k := 1) rfl (Eq.refl _) tk_1 (by omega) (by omega) (by decide) (fun _ => rfl) (fun x31 ls ex31 hl => ?_)
          replace hF := hF.trans (congrArg (dv_k f_X12_orders_27b) (dv_bn (ex31.symm)))
          refine lv_goto (tgt := 27) hx hb gX12_orders_3.2.2.2.2.1 (by decide) ?_
          replace hF := hF.trans (dv_kl)
          exact ih27 H45 locs ls x31 hB hR (lv_sub hl [1, 0] rfl) hF (by omega) (by omega) (fun z a9 b9 => by rw [vs45]; by_cases q9 : z = j27_1.toInt; rw [mo_us q9, q9, ← g27_3.2.2.2.1, ← vgx28]; rw [mo_un q9]; exact g27_2 z a9 (by omega)) (mo_sr_tr g27_3 (mo_sr_F hB.1 hf h0 (by decide))) (by omega)
    exact lp27 ((2147483648 : Int) - (0)).toNat H22 locs ls 0 hB hR (lv_sub hl [1, 0] rfl) (by rw [tk_0]; exact hF) (by decide) (by decide) (fun z a9 b9 => by have w0 := tk_0; omega) mo_sr_rf (by have w0 := tk_0; omega)
  · replace hF := hF.trans (if_neg (not_not_intro c10))
    refine lv_aload_n hx hb gX12_orders_0.2.2.2.2.2.2.2 rfl (lv_at hl 0 rfl) ?_
    refine lv_bipush (v := (-6)) hx hb gX12_orders_1.1 (by decide) ?_
    refine th_call (th_runV (As := [.int (-6)]) (rest := []) hC mf_X12_refuses km_X12_109 im_X12_refuses se_X12_refuses (c_X12_refuses l G Γ H7 hB.1 hR.1 hU a0 h0 (-6) (by decide) (by decide)) rfl rfl ⟨Nat.le_of_ble_eq_true rfl, Nat.le_of_ble_eq_true rfl⟩ hB.1 h0 ro_46 rfl rfl hl.1 rfl (Nat.le_of_ble_eq_true rfl) gX12_orders_1.2.1 ⟨Nat.le_refl _, Nat.le_refl _⟩) hB.2.1 (fun v16 H16 locs hp hz hS => ?_)
    have hRD := hR
    obtain ⟨x32, rfl, q16_0, hI1, hf, hR, z16_0⟩ := hp
    have hR := th_RN_c hR hRD hI1 h0 hf (by decide)
    have hB := th_B_c hB hI1 hS hf (by decide)
    have fv_H16_18 : mo_f G H16 a0 18 = mo_f G H7 a0 18 := mo_f_F hf h0 (by decide) (by decide)
    have fv_H16_33 : mo_f G H16 a0 33 = mo_f G H7 a0 33 := mo_f_F hf h0 (by decide) (by decide)
    have fv_H16_48 : mo_f G H16 a0 48 = mo_f G H7 a0 48 := mo_f_F hf h0 (by decide) (by decide)
    have vv_H16_2 : mo_v G H16 a0 2 = mo_v G H7 a0 2 := mo_v_F (r := 48) hB.1 hf h0 rfl ro_48 (by decide) (by decide)
    have vv_H16_3 : mo_v G H16 a0 3 = mo_v G H7 a0 3 := mo_v_F (r := 49) hB.1 hf h0 rfl ro_49 (by decide) (by decide)
    have vv_H16_4 : mo_v G H16 a0 4 = mo_v G H7 a0 4 := mo_v_F (r := 50) hB.1 hf h0 rfl ro_50 (by decide) (by decide)
    have vv_H16_31 : mo_v G H16 a0 31 = mo_v G H7 a0 31 := mo_v_F (r := 61) hB.1 hf h0 rfl ro_61 (by decide) (by decide)
    have vv_H16_5 : mo_v G H16 a0 5 = mo_v G H7 a0 5 := mo_v_F (r := 51) hB.1 hf h0 rfl ro_51 (by decide) (by decide)
    have vv_H16_15 : mo_v G H16 a0 15 = mo_v G H7 a0 15 := mo_v_F (r := 55) hB.1 hf h0 rfl ro_55 (by decide) (by decide)
    have vv_H16_32 : mo_v G H16 a0 32 = mo_v G H7 a0 32 := mo_v_F (r := 62) hB.1 hf h0 rfl ro_62 (by decide) (by decide)
    have w16_0 := tk_m6
    have zf16 := z16_0
    rw [tk_m6] at zf16
    replace hF := hF.trans (dv_bn2 (zf16))
    refine W.eq (g2 := F0 m 19 ls [.int x32]) rfl ?_
    exact th_iret hC hH hr hlocks rfl hB.2.1 ⟨_, rfl, hB.1, hB.2.2, hR, (hF0.symm.trans hF)⟩ gX12_orders_1.2.2.1
end
section
section TC
variable {p : Program} {l : Launch} {e : Env} {R : Room} {s : State} {m : MethodId} {args : Array Value} {below : List Frame} {meth : Method} {c : Code} {H H0 H1 : Heap} {locs : List Loc} {cells slots : Nat} {Q : State → Prop}
variable {cc : ByteArray} {pc : Nat} {ls : Array Slot} {rest : List Value} {G : th_G} {Γ Γ0 Γ1 : th_Ga} {a0 : Nat}
/-- a constructor's run: but for its object a0, what was is as it was, named as it was; a0 has no name yet -/
def th_N (G : th_G) (Γ0 Γ : th_Ga) (a0 : Nat) (H0 H : Heap) (locs : List Loc) : Prop := th_I G Γ H ∧ va_S (fun q => G.1.2.2 ≤ q) H0 H locs ∧ (∀ q, q < H0.size → q ≠ a0 → H[q]? = H0[q]?) ∧ (∀ q, q < H0.size → q ≠ a0 → Γ q = Γ0 q) ∧ th_ro (Γ a0).1 = none ∧ G.1.2.2 ≤ a0 ∧ a0 < H0.size
/-- an object without a name -/
def th_OB (G : th_G) (Γ : th_Ga) (H : Heap) (a k N : Nat) (V : Nat → Value) : Prop := th_ro (Γ a).1 = none ∧ t_OB a (G.1.1.1 k) N (G.1.1.2 k) H V
/-- what a constructor gives: its object has a name, all that was is as it was -/
def th_NX (G : th_G) (Γ Γ1 : th_Ga) (a0 : Nat) (H H1 : Heap) : Prop := th_I G Γ1 H1 ∧ H.size ≤ H1.size ∧ ∀ q, q < H.size → q ≠ a0 → Γ1 q = Γ q ∧ H1[q]? = H[q]?
theorem tc_Iold (hI : th_I G Γ H) {b : Nat} (hb : th_ro (Γ b).1 = none) (oq : ∀ q, q < H.size → q ≠ b → H1[q]? = H[q]?) : th_I G Γ H1 := fun a r o d hg hd => by
  obtain ⟨h1, h2⟩ := hI a r o d hg hd
  refine ⟨h1, th_ok_kept h2 (oq a (th_ok_lt h2) (fun e => ?_))⟩
  subst e
  rw [hg] at hb
  rw [hd] at hb
  cases hb
theorem tc_un (hI : th_I G Γ H) {q : Nat} (hq : H.size ≤ q) : th_ro (Γ q).1 = none := by
  cases h : th_ro (Γ q).1 with
  | none => rfl
  | some d => exact absurd (th_ok_lt (hI q (Γ q).1 (Γ q).2 d rfl h).2) (by omega)
/-- a store into a final field of the object that is made -/
theorem tc_putF {nL : Nat} {C : String} (hC : th_C p s m args c cc nL C G) {k : Nat} {T : u_T} {N : Nat} {ty : Nat → FieldType} (hcf : th_CF k C T N ty) (hB : th_N G Γ0 Γ a0 H0 H locs) {j index : Nat} {V : Nat → Value} {v : Value} (ho : th_OB G Γ H a0 k N V) (hj : j < N) (hfin : (T j).2.2.2 = true) (hin2 : meth.name = "<init>") (hn : narrow (ty j) v = v) (hfit : fits (ty j) v = true)
    (hl : Cond.fieldLink C index C (T j).2.1 (T j).2.2.1 ∈ th_tb) (hdg : decode cc pc = .ok (.putfield index, 3))
    (kk : ∀ (H1 : Heap) (locs1 : List Loc), th_N G Γ0 Γ a0 H0 H1 locs1 → th_OB G Γ H1 a0 k N (updV V j v) → H1.size = H.size → (∀ q, q ≠ a0 → H1[q]? = H[q]?) → W p l e R s m args below meth c H1 locs1 cells slots Q (F0 m (pc + 3) ls rest)) : W p l e R s m args below meth c H locs cells slots Q (F0 m pc ls (v :: .ref a0 :: rest)) := by
  have hap := th_apart hC hcf
  obtain ⟨hx, hb, -, hown, hts, hK, -⟩ := hC
  obtain ⟨hc, hin, hty, hnm, hdc⟩ := hcf
  obtain ⟨hI, hS0, hO, hG, hu, hsz, hlt0⟩ := hB
  obtain ⟨hu1, cell, q1, q2, q3, q4⟩ := ho
  obtain ⟨hS, hfc, kC, hkC, hkind⟩ := hK.1 k _ hc
  obtain ⟨cf, kf, fi, f, hi, hsl⟩ := hS j hj
  have hi' := hi
  rw [hdc j hj] at hi'
  have hlay := hts _ (hin _ (u_in_lay hj))
  unfold u_lay at hlay
  rw [if_pos hfin] at hlay
  have hst := (u_facts hfc hkC (u_lays hts hin hj) hi).1
  have hcf' : m.cls = cf := by
    obtain ⟨_, _, c', _, _, _, -, -, hf', -, -, -, hown2, -⟩ := Cond.laysFinal_spec hlay
    have e1 : c' = cf := by have := hi.symm.trans hf'; simp at this; exact this.1.symm
    rw [hdc j hj] at hown2
    rw [← e1]; exact Option.some.inj (hown.symm.trans hown2)
  have h6 := u_fits hfc hkC hkind (Or.inr hlay) hi (hty j hj) hn hfit
  have hlt : f.slot < cell.slots.size := by rw [hsl]; exact k2_hasslot (q4 j hj)
  refine W.putFinK hx hb hown (hts _ hl) hi' hst hcf' hin2 (by rw [q2]; exact h6) q1 q3 hlt rfl rfl hdg fun H' e1 e2 e3 => ?_
  rw [hsl] at e1 ⊢
  exact kk H' _ ⟨tc_Iold hI hu (fun q _ hq => e3 q hq), hS0.put e2 e3 hsz, fun q h1 h2 => (e3 q h2).trans (hO q h1 h2), hG, hu, hsz, hlt0⟩ ⟨hu1, _, e1, q2, q3, t_set q4 hap hj v⟩ e2 e3
/-- the same, into a field that isn't final -/
theorem tc_put {nL : Nat} {C : String} (hC : th_C p s m args c cc nL C G) {k : Nat} {T : u_T} {N : Nat} {ty : Nat → FieldType} (hcf : th_CF k C T N ty) (hB : th_N G Γ0 Γ a0 H0 H locs) {j index : Nat} {V : Nat → Value} {v : Value} (ho : th_OB G Γ H a0 k N V) (hj : j < N) (hfin : (T j).2.2.2 = false) (hn : narrow (ty j) v = v) (hfit : fits (ty j) v = true)
    (hl : Cond.fieldLink C index C (T j).2.1 (T j).2.2.1 ∈ th_tb) (hdg : decode cc pc = .ok (.putfield index, 3))
    (kk : ∀ (H1 : Heap) (locs1 : List Loc), th_N G Γ0 Γ a0 H0 H1 locs1 → th_OB G Γ H1 a0 k N (updV V j v) → H1.size = H.size → (∀ q, q ≠ a0 → H1[q]? = H[q]?) → W p l e R s m args below meth c H1 locs1 cells slots Q (F0 m (pc + 3) ls rest)) : W p l e R s m args below meth c H locs cells slots Q (F0 m pc ls (v :: .ref a0 :: rest)) := by
  have hap := th_apart hC hcf
  obtain ⟨hx, hb, -, hown, hts, hK, -⟩ := hC
  obtain ⟨hc, hin, hty, hnm, hdc⟩ := hcf
  obtain ⟨hI, hS0, hO, hG, hu, hsz, hlt0⟩ := hB
  obtain ⟨hu1, cell, q1, q2, q3, q4⟩ := ho
  obtain ⟨hS, hfc, kC, hkC, hkind⟩ := hK.1 k _ hc
  obtain ⟨cf, kf, fi, f, hi, hsl⟩ := hS j hj
  have hi' := hi
  rw [hdc j hj] at hi'
  have hlay := hts _ (hin _ (u_in_lay hj))
  unfold u_lay at hlay
  rw [if_neg (by rw [hfin]; decide)] at hlay
  have hst := (u_facts hfc hkC (u_lays hts hin hj) hi).1
  have h6 := u_store hfc hkC hkind hlay hi (hty j hj) hn hfit
  have hlt : f.slot < cell.slots.size := by rw [hsl]; exact k2_hasslot (q4 j hj)
  refine W.putK hx hb (f := f) ⟨hown, hts _ hl, ⟨_, _, _, hi'⟩, hst⟩ (by rw [q2]; exact h6) q1 q3 hlt rfl rfl hdg fun H' e1 e2 e3 => ?_
  rw [hsl] at e1 ⊢
  exact kk H' _ ⟨tc_Iold hI hu (fun q _ hq => e3 q hq), hS0.put e2 e3 hsz, fun q h1 h2 => (e3 q h2).trans (hO q h1 h2), hG, hu, hsz, hlt0⟩ ⟨hu1, _, e1, q2, q3, t_set q4 hap hj v⟩ e2 e3
theorem tc_newa {nL : Nat} {own : String} (hC : th_C p s m args c cc nL own G) (hB : th_N G Γ0 Γ a0 H0 H locs) {t : Nat} {atype : ArrayType} {ty : FieldType} (ht : (th_ty G.1.2.1)[t]? = some (G.1.2.1 t, ty)) (hty : newarray.typeOf atype = ty) (hprim : va_RA s (G.1.2.1 t) ty = (s.vm.findClass ("[" ++ ty.toString) = some (G.1.2.1 t))) (harr : Cond.arrayClass ty ∈ th_tb)
    {n : Int32} {N : Nat} (hn : n.toInt = (N : Int)) (hbytes : N * componentBytes ty ≤ 536870912) (hcells : cells + 1 ≤ R.cells) (hslots : slots + N ≤ R.slots) (hdg : decode cc pc = .ok (.newarray atype, 2))
    (kk : ∀ (b : Nat) (H1 : Heap), b = H.size → H1.size = H.size + 1 → (∀ q, q ≠ b → H1[q]? = H[q]?) → th_N G Γ0 Γ a0 H0 H1 locs → th_MA G Γ H1 b t N (fun _ => defaultValue ty) → W p l e R s m args below meth c H1 locs (cells + 1) (slots + N) Q (F0 m (pc + 2) ls (.ref b :: rest))) : W p l e R s m args below meth c H locs cells slots Q (F0 m pc ls (.int n :: rest)) := by
  subst hty
  have hnn : n.toNatClampNeg = N := by
    show n.toInt.toNat = N
    omega
  refine va_newaK hC.1 hC.2.1 (hC.2.2.2.2.1 _ harr) rfl hdg rfl (fun q => by have := ti_lt q; have h0 : (0 : Int32).toInt = 0 := rfl; omega) hnn hbytes hcells hslots rfl fun H1 cA e1 z1 o1 hAr hNm => ?_
  have hcA : cA = G.1.2.1 t := by
    have h9 := (hC.2.2.2.2.2.1.2 t _ ht).2
    rw [hprim] at h9
    exact Option.some.inj (hNm.symm.trans h9)
  subst hcA
  have oq : ∀ q, q ≠ H.size → H1[q]? = H[q]? := fun q hq => by
    by_cases h : q < H.size
    · exact o1 q h
    · rw [Array.getElem?_eq_none (by omega), Array.getElem?_eq_none (by omega)]
  obtain ⟨hI, hS, hO, hG, hu, hsz, hlt0⟩ := hB
  have hle := hS.1
  have hun : th_ro (Γ H.size).1 = none := tc_un hI (Nat.le_refl _)
  exact kk H.size H1 rfl z1 oq ⟨tc_Iold hI hun (fun q _ hq => oq q hq), ⟨Nat.le_trans hS.1 (by omega), fun q h1 h2 => (o1 q (Nat.lt_of_lt_of_le h1 hS.1)).trans (hS.2.1 q h1 h2), hS.2.2⟩, fun q h1 h2 => (o1 q (by omega)).trans (hO q h1 h2), hG, hu, hsz, hlt0⟩ ⟨by omega, hun, e1⟩
theorem tc_new {nL : Nat} {own C : String} (hC : th_C p s m args c cc nL own G) {k : Nat} {T : u_T} {N : Nat} {ty : Nat → FieldType} (hcf : th_CF k C T N ty) (hB : th_N G Γ0 Γ a0 H0 H locs) {index : Nat} (hcl : Cond.classLink own index C ∈ th_tb) (hinst : Cond.instantiable C N ∈ th_tb) (hini : Cond.initialized C ∈ th_tb) (hcells : cells + 1 ≤ R.cells) (hslots : slots + N ≤ R.slots) (hdg : decode cc pc = .ok (.new index, 3))
    (kk : ∀ (b : Nat) (H1 : Heap), b = H.size → H1.size = H.size + 1 → (∀ q, q ≠ b → H1[q]? = H[q]?) → th_N G Γ0 Γ a0 H0 H1 locs → th_OB G Γ H1 b k N (fun j => defaultValue (ty j)) → W p l e R s m args below meth c H1 locs (cells + 1) (slots + N) Q (F0 m (pc + 3) ls (.ref b :: rest))) : W p l e R s m args below meth c H locs cells slots Q (F0 m pc ls rest) := by
  obtain ⟨hx, hb, -, hown, hts, hK, -⟩ := hC
  obtain ⟨hc, hin, hty, hnm, hdc⟩ := hcf
  obtain ⟨hI, hS, hO, hG, hu, hsz, hlt0⟩ := hB
  have hKn := hK.1 k _ hc
  refine W.newcK hx hb hown (hts _ hcl) (hts _ hinst) (hts _ hini) rfl hdg hcells hslots hKn.2.1 rfl fun H1 kC hkC e1 z1 o1 => ?_
  have oq : ∀ q, q ≠ H.size → H1[q]? = H[q]? := fun q hq => by
    by_cases h : q < H.size
    · exact o1 q h
    · rw [Array.getElem?_eq_none (by omega), Array.getElem?_eq_none (by omega)]
  have hle := hS.1
  have hun : th_ro (Γ H.size).1 = none := tc_un hI (Nat.le_refl _)
  exact kk H.size H1 rfl z1 oq ⟨tc_Iold hI hun (fun q _ hq => oq q hq), ⟨Nat.le_trans hS.1 (by omega), fun q h1 h2 => (o1 q (Nat.lt_of_lt_of_le h1 hS.1)).trans (hS.2.1 q h1 h2), hS.2.2⟩, fun q h1 h2 => (o1 q (by omega)).trans (hO q h1 h2), hG, hu, hsz, hlt0⟩ ⟨hun, u_born ty hts hin hKn hkC e1 hty⟩
end TC
end
section
section TN
variable {G : th_G} {Γ Γ1 : th_Ga} {H H1 : Heap}
def th_gb (q : th_sp) : Bool := !(q.1 == 2 || q.1 == 3 || q.1 == 4) || (th_ro q.2.1.toNat).isSome
/-- what a role names has a role -/
def th_gdD (d : th_De) : Prop := match d with
  | .inl (_, fs) => ∀ (j : Nat) (q : th_sp), fs[j]? = some q → th_gb q = true
  | .inr (_, _, _, es) => ∀ i : Nat, th_gb (es i) = true
theorem th_gd_l {k : Nat} {fs : List th_sp} (h : fs.all th_gb = true) : th_gdD (.inl (k, fs)) := fun j q hq => List.all_eq_true.mp h q (List.mem_of_getElem? hq)
theorem th_gb_0 {q : th_sp} (h : q.1 = 0) : th_gb q = true := by
  unfold th_gb
  rw [h]
  rfl
theorem gd_1 : th_gdD (.inl (0, th_f1)) := th_gd_l (by decide)
theorem gd_2 : th_gdD (.inr (1, 200, 200, fun _ => (1, (-9223372036854775808), 9223372036854775807))) := fun _ => rfl
theorem gd_3 : th_gdD (.inl (1, th_f3)) := th_gd_l (by decide)
theorem gd_4 : th_gdD (.inr (0, 9, 9, fun _ => (0, 0, 12))) := fun _ => rfl
theorem gd_5 : th_gdD (.inr (0, 9, 9, fun _ => (0, (-2147483648), 2147483647))) := fun _ => rfl
theorem gd_6 : th_gdD (.inr (0, 9, 9, fun _ => (0, (-2147483648), 2147483647))) := fun _ => rfl
theorem gd_7 : th_gdD (.inr (0, 9, 9, fun _ => (0, (-2147483648), 2147483647))) := fun _ => rfl
theorem gd_8 : th_gdD (.inr (0, 9, 9, fun _ => (0, (-2147483648), 2147483647))) := fun _ => rfl
theorem gd_9 : th_gdD (.inr (0, 3, 3, fun _ => (0, (-2147483648), 2147483647))) := fun _ => rfl
theorem gd_10 : th_gdD (.inr (0, 12, 12, fun _ => (0, (-2147483648), 2147483647))) := fun _ => rfl
theorem gd_11 : th_gdD (.inl (2, th_f11)) := th_gd_l (by decide)
theorem gd_12 : th_gdD (.inl (3, th_f12)) := th_gd_l (by decide)
theorem gd_13 : th_gdD (.inr (1, 1024, 16384, fun _ => (1, (-9223372036854775808), 9223372036854775807))) := fun _ => rfl
theorem gd_14 : th_gdD (.inr (0, 1024, 16384, fun _ => (0, (-2147483648), 2147483647))) := fun _ => rfl
theorem gd_15 : th_gdD (.inr (0, 1024, 16384, fun _ => (0, (-2147483648), 2147483647))) := fun _ => rfl
theorem gd_16 : th_gdD (.inr (0, 512, 8192, fun _ => (0, 0, 16383))) := fun _ => rfl
theorem gd_17 : th_gdD (.inl (4, th_f17)) := th_gd_l (by decide)
theorem gd_18 : th_gdD (.inr (0, 480, 480, fun _ => (0, (-2147483648), 2147483647))) := fun _ => rfl
theorem gd_19 : th_gdD (.inr (0, 480, 480, fun _ => (0, (-2147483648), 2147483647))) := fun _ => rfl
theorem gd_20 : th_gdD (.inl (5, th_f20)) := th_gd_l (by decide)
theorem gd_21 : th_gdD (.inr (0, 401, 401, fun _ => (0, (-2147483648), 2147483647))) := fun _ => rfl
theorem gd_22 : th_gdD (.inr (0, 401, 401, fun _ => (0, (-2147483648), 2147483647))) := fun _ => rfl
theorem gd_23 : th_gdD (.inl (6, th_f23)) := th_gd_l (by decide)
theorem gd_24 : th_gdD (.inr (1, 64, 64, fun _ => (1, (-9223372036854775808), 9223372036854775807))) := fun _ => rfl
theorem gd_25 : th_gdD (.inr (0, 23, 23, fun _ => (0, (-2147483648), 2147483647))) := fun _ => rfl
theorem gd_26 : th_gdD (.inr (0, 3, 3, fun _ => (0, (-2147483648), 2147483647))) := fun _ => rfl
theorem gd_27 : th_gdD (.inl (7, th_f27)) := th_gd_l (by decide)
theorem gd_28 : th_gdD (.inr (0, 1296, 1296, fun _ => (0, (-2147483648), 2147483647))) := fun _ => rfl
theorem gd_29 : th_gdD (.inr (0, 1296, 1296, fun _ => (0, (-2147483648), 2147483647))) := fun _ => rfl
theorem gd_30 : th_gdD (.inr (0, 1296, 1296, fun _ => (0, (-2147483648), 2147483647))) := fun _ => rfl
theorem gd_31 : th_gdD (.inr (0, 9, 9, fun _ => (0, (-2147483648), 2147483647))) := fun _ => rfl
theorem gd_32 : th_gdD (.inl (8, th_f32)) := th_gd_l (by decide)
theorem gd_33 : th_gdD (.inr (4, 6, 6, fun _ => (2, 39, 0))) := fun _ => rfl
theorem gd_34 : th_gdD (.inr (0, 6, 6, fun _ => (0, (-2147483648), 2147483647))) := fun _ => rfl
theorem gd_35 : th_gdD (.inr (0, 6, 6, fun _ => (0, (-2147483648), 2147483647))) := fun _ => rfl
theorem gd_36 : th_gdD (.inr (0, 6, 6, fun _ => (0, (-2147483648), 2147483647))) := fun _ => rfl
theorem gd_37 : th_gdD (.inl (9, th_f37)) := th_gd_l (by decide)
theorem gd_38 : th_gdD (.inr (0, 400, 400, fun _ => (0, (-2147483648), 2147483647))) := fun _ => rfl
theorem gd_39 : th_gdD (.inl (10, th_f39)) := th_gd_l (by decide)
theorem gd_40 : th_gdD (.inr (0, 400, 400, fun _ => (0, 0, 2147483647))) := fun _ => rfl
theorem gd_41 : th_gdD (.inr (0, 96, 96, th_esm)) := fun i => th_gb_0 (th_esm1 i)
theorem gd_42 : th_gdD (.inl (11, th_f42)) := th_gd_l (by decide)
theorem gd_43 : th_gdD (.inr (5, 2, 2, fun _ => (2, 32, 0))) := fun _ => rfl
theorem gd_44 : th_gdD (.inr (2, 2, 2, fun _ => (0, 0, 1))) := fun _ => rfl
theorem gd_45 : th_gdD (.inr (0, 5, 5, fun _ => (0, (-2147483648), 2147483647))) := fun _ => rfl
theorem gd_46 : th_gdD (.inl (12, th_f46)) := th_gd_l (by decide)
theorem gd_47 : th_gdD (.inr (0, 7, 7, fun _ => (0, (-2147483648), 2147483647))) := fun _ => rfl
theorem gd_48 : th_gdD (.inr (0, 5680, 5680, th_esk)) := fun i => th_gb_0 (th_esk1 i)
theorem gd_49 : th_gdD (.inr (0, 11360, 11360, th_esi)) := fun i => th_gb_0 (th_esi1 i)
theorem gd_50 : th_gdD (.inr (2, 2, 2, fun _ => (0, 0, 1))) := fun _ => rfl
theorem gd_51 : th_gdD (.inr (0, 58, 58, fun _ => (0, (-2147483648), 2147483647))) := fun _ => rfl
theorem gd_52 : th_gdD (.inr (3, 127, 127, th_esw)) := fun _ => rfl
theorem gd_53 : th_gdD (.inr (3, 400, 400, fun _ => (0, (-128), 127))) := fun _ => rfl
theorem gd_54 : th_gdD (.inr (0, 5, 5, fun _ => (0, (-2147483648), 2147483647))) := fun _ => rfl
theorem gd_55 : th_gdD (.inr (0, 401, 401, fun _ => (0, (-2147483648), 2147483647))) := fun _ => rfl
theorem gd_56 : th_gdD (.inr (0, 401, 401, fun _ => (0, (-2147483648), 2147483647))) := fun _ => rfl
theorem gd_57 : th_gdD (.inr (0, 401, 401, fun _ => (0, 0, 400))) := fun _ => rfl
theorem gd_58 : th_gdD (.inr (0, 8, 8, fun _ => (0, (-2147483648), 2147483647))) := fun _ => rfl
theorem gd_59 : th_gdD (.inr (0, 12, 12, fun _ => (0, (-2147483648), 2147483647))) := fun _ => rfl
theorem gd_60 : th_gdD (.inr (0, 9, 9, fun _ => (0, (-2147483648), 2147483647))) := fun _ => rfl
theorem gd_61 : th_gdD (.inr (0, 480, 480, fun _ => (0, (-2147483648), 2147483647))) := fun _ => rfl
theorem gd_62 : th_gdD (.inr (0, 480, 480, fun _ => (0, (-2147483648), 2147483647))) := fun _ => rfl
theorem gd_63 : th_gdD (.inr (0, 1296, 1296, fun _ => (0, (-2147483648), 2147483647))) := fun _ => rfl
theorem gd_64 : th_gdD (.inr (0, 9, 9, fun _ => (0, 0, 8))) := fun _ => rfl
theorem gd_65 : th_gdD (.inr (0, 9, 9, fun _ => (0, 0, 143))) := fun _ => rfl
theorem gd_66 : th_gdD (.inr (0, 9, 9, fun _ => (0, (-2147483648), 2147483647))) := fun _ => rfl
theorem gd_67 : th_gdD (.inr (0, 1296, 1296, fun _ => (0, (-2147483648), 2147483647))) := fun _ => rfl
theorem gd_68 : th_gdD (.inr (1, 21, 21, fun _ => (1, (-9223372036854775808), 9223372036854775807))) := fun _ => rfl
theorem gd_69 : th_gdD (.inr (1, 3, 3, fun _ => (1, (-9223372036854775808), 9223372036854775807))) := fun _ => rfl
theorem gd_70 : th_gdD (.inr (0, 29, 29, fun _ => (0, (-2147483648), 2147483647))) := fun _ => rfl
theorem gd_71 : th_gdD (.inl (0, th_f71)) := th_gd_l (by decide)
theorem gd_72 : th_gdD (.inl (1, th_f72)) := th_gd_l (by decide)
theorem gd_73 : th_gdD (.inl (2, th_f73)) := th_gd_l (by decide)
theorem gd_74 : th_gdD (.inl (3, th_f74)) := th_gd_l (by decide)
theorem gd_75 : th_gdD (.inl (4, th_f75)) := th_gd_l (by decide)
theorem gd_76 : th_gdD (.inl (5, th_f76)) := th_gd_l (by decide)
theorem gd_77 : th_gdD (.inl (6, th_f77)) := th_gd_l (by decide)
theorem gd_78 : th_gdD (.inl (7, th_f78)) := th_gd_l (by decide)
theorem gd_79 : th_gdD (.inl (8, th_f79)) := th_gd_l (by decide)
theorem gd_80 : th_gdD (.inl (9, th_f80)) := th_gd_l (by decide)
theorem gd_81 : th_gdD (.inl (10, th_f81)) := th_gd_l (by decide)
theorem gd_82 : th_gdD (.inl (11, th_f82)) := th_gd_l (by decide)
theorem gd_83 : th_gdD (.inl (12, th_f83)) := th_gd_l (by decide)
theorem gd_84 : th_gdD (.inr (4, 6, 6, fun _ => (5, 0, 0))) := fun _ => rfl
theorem gd_85 : th_gdD (.inr (5, 2, 2, fun _ => (5, 0, 0))) := fun _ => rfl
theorem gd_86 : th_gdD (.inr (0, 5680, 5680, fun _ => (5, 0, 0))) := fun _ => rfl
theorem gd_87 : th_gdD (.inr (0, 11360, 11360, fun _ => (5, 0, 0))) := fun _ => rfl
theorem gd_88 : th_gdD (.inr (3, 127, 127, fun _ => (5, 0, 0))) := fun _ => rfl
theorem th_gd_all : ∀ (r : Nat) (d : th_De), th_ro r = some d → th_gdD d
  | 0, _, h => by cases h
  | 1, _, h => by cases ro_1.symm.trans h; exact gd_1
  | 2, _, h => by cases ro_2.symm.trans h; exact gd_2
  | 3, _, h => by cases ro_3.symm.trans h; exact gd_3
  | 4, _, h => by cases ro_4.symm.trans h; exact gd_4
  | 5, _, h => by cases ro_5.symm.trans h; exact gd_5
  | 6, _, h => by cases ro_6.symm.trans h; exact gd_6
  | 7, _, h => by cases ro_7.symm.trans h; exact gd_7
  | 8, _, h => by cases ro_8.symm.trans h; exact gd_8
  | 9, _, h => by cases ro_9.symm.trans h; exact gd_9
  | 10, _, h => by cases ro_10.symm.trans h; exact gd_10
  | 11, _, h => by cases ro_11.symm.trans h; exact gd_11
  | 12, _, h => by cases ro_12.symm.trans h; exact gd_12
  | 13, _, h => by cases ro_13.symm.trans h; exact gd_13
  | 14, _, h => by cases ro_14.symm.trans h; exact gd_14
  | 15, _, h => by cases ro_15.symm.trans h; exact gd_15
  | 16, _, h => by cases ro_16.symm.trans h; exact gd_16
  | 17, _, h => by cases ro_17.symm.trans h; exact gd_17
  | 18, _, h => by cases ro_18.symm.trans h; exact gd_18
  | 19, _, h => by cases ro_19.symm.trans h; exact gd_19
  | 20, _, h => by cases ro_20.symm.trans h; exact gd_20
  | 21, _, h => by cases ro_21.symm.trans h; exact gd_21
  | 22, _, h => by cases ro_22.symm.trans h; exact gd_22
  | 23, _, h => by cases ro_23.symm.trans h; exact gd_23
  | 24, _, h => by cases ro_24.symm.trans h; exact gd_24
  | 25, _, h => by cases ro_25.symm.trans h; exact gd_25
  | 26, _, h => by cases ro_26.symm.trans h; exact gd_26
  | 27, _, h => by cases ro_27.symm.trans h; exact gd_27
  | 28, _, h => by cases ro_28.symm.trans h; exact gd_28
  | 29, _, h => by cases ro_29.symm.trans h; exact gd_29
  | 30, _, h => by cases ro_30.symm.trans h; exact gd_30
  | 31, _, h => by cases ro_31.symm.trans h; exact gd_31
  | 32, _, h => by cases ro_32.symm.trans h; exact gd_32
  | 33, _, h => by cases ro_33.symm.trans h; exact gd_33
  | 34, _, h => by cases ro_34.symm.trans h; exact gd_34
  | 35, _, h => by cases ro_35.symm.trans h; exact gd_35
  | 36, _, h => by cases ro_36.symm.trans h; exact gd_36
  | 37, _, h => by cases ro_37.symm.trans h; exact gd_37
  | 38, _, h => by cases ro_38.symm.trans h; exact gd_38
  | 39, _, h => by cases ro_39.symm.trans h; exact gd_39
  | 40, _, h => by cases ro_40.symm.trans h; exact gd_40
  | 41, _, h => by cases ro_41.symm.trans h; exact gd_41
  | 42, _, h => by cases ro_42.symm.trans h; exact gd_42
  | 43, _, h => by cases ro_43.symm.trans h; exact gd_43
  | 44, _, h => by cases ro_44.symm.trans h; exact gd_44
  | 45, _, h => by cases ro_45.symm.trans h; exact gd_45
  | 46, _, h => by cases ro_46.symm.trans h; exact gd_46
  | 47, _, h => by cases ro_47.symm.trans h; exact gd_47
  | 48, _, h => by cases ro_48.symm.trans h; exact gd_48
  | 49, _, h => by cases ro_49.symm.trans h; exact gd_49
  | 50, _, h => by cases ro_50.symm.trans h; exact gd_50
  | 51, _, h => by cases ro_51.symm.trans h; exact gd_51
  | 52, _, h => by cases ro_52.symm.trans h; exact gd_52
  | 53, _, h => by cases ro_53.symm.trans h; exact gd_53
  | 54, _, h => by cases ro_54.symm.trans h; exact gd_54
  | 55, _, h => by cases ro_55.symm.trans h; exact gd_55
  | 56, _, h => by cases ro_56.symm.trans h; exact gd_56
  | 57, _, h => by cases ro_57.symm.trans h; exact gd_57
  | 58, _, h => by cases ro_58.symm.trans h; exact gd_58
  | 59, _, h => by cases ro_59.symm.trans h; exact gd_59
  | 60, _, h => by cases ro_60.symm.trans h; exact gd_60
  | 61, _, h => by cases ro_61.symm.trans h; exact gd_61
  | 62, _, h => by cases ro_62.symm.trans h; exact gd_62
  | 63, _, h => by cases ro_63.symm.trans h; exact gd_63
  | 64, _, h => by cases ro_64.symm.trans h; exact gd_64
  | 65, _, h => by cases ro_65.symm.trans h; exact gd_65
  | 66, _, h => by cases ro_66.symm.trans h; exact gd_66
  | 67, _, h => by cases ro_67.symm.trans h; exact gd_67
  | 68, _, h => by cases ro_68.symm.trans h; exact gd_68
  | 69, _, h => by cases ro_69.symm.trans h; exact gd_69
  | 70, _, h => by cases ro_70.symm.trans h; exact gd_70
  | 71, _, h => by cases ro_71.symm.trans h; exact gd_71
  | 72, _, h => by cases ro_72.symm.trans h; exact gd_72
  | 73, _, h => by cases ro_73.symm.trans h; exact gd_73
  | 74, _, h => by cases ro_74.symm.trans h; exact gd_74
  | 75, _, h => by cases ro_75.symm.trans h; exact gd_75
  | 76, _, h => by cases ro_76.symm.trans h; exact gd_76
  | 77, _, h => by cases ro_77.symm.trans h; exact gd_77
  | 78, _, h => by cases ro_78.symm.trans h; exact gd_78
  | 79, _, h => by cases ro_79.symm.trans h; exact gd_79
  | 80, _, h => by cases ro_80.symm.trans h; exact gd_80
  | 81, _, h => by cases ro_81.symm.trans h; exact gd_81
  | 82, _, h => by cases ro_82.symm.trans h; exact gd_82
  | 83, _, h => by cases ro_83.symm.trans h; exact gd_83
  | 84, _, h => by cases ro_84.symm.trans h; exact gd_84
  | 85, _, h => by cases ro_85.symm.trans h; exact gd_85
  | 86, _, h => by cases ro_86.symm.trans h; exact gd_86
  | 87, _, h => by cases ro_87.symm.trans h; exact gd_87
  | 88, _, h => by cases ro_88.symm.trans h; exact gd_88
  | n + 89, _, h => by have h2 : th_rl[n + 88]? = none := List.getElem?_eq_none (Nat.le_add_left 88 n); cases h2.symm.trans h
theorem th_sat_up {a : Nat} {q : th_sp} {v : Value} (hg : th_gb q = true) (hm : ∀ b r o : Nat, Γ b = (r, o) → (th_ro r).isSome = true → Γ1 b = (r, o)) (h : th_sat Γ a q v) : th_sat Γ1 a q v := by
  obtain ⟨t, lo, hi⟩ := q
  unfold th_gb at hg
  unfold th_sat at h ⊢
  match t, hg, h with
  | 0, _, h => exact h
  | 1, _, h => exact h
  | 2, hg, h =>
    obtain ⟨b, e1, e2⟩ := h
    exact ⟨b, e1, hm b _ _ e2 (by simpa using hg)⟩
  | 3, hg, h =>
    rcases h with h | ⟨b, e1, e2⟩
    · exact Or.inl h
    · exact Or.inr ⟨b, e1, hm b _ _ e2 (by simpa using hg)⟩
  | 4, hg, h =>
    obtain ⟨b, e1, e2⟩ := h
    exact ⟨b, e1, hm b _ _ e2 (by simpa using hg)⟩
  | n + 5, _, _ => trivial
theorem th_ok_up {a : Nat} {d : th_De} (hg : th_gdD d) (hm : ∀ b r o : Nat, Γ b = (r, o) → (th_ro r).isSome = true → Γ1 b = (r, o)) (h : th_ok G Γ H a d) : th_ok G Γ1 H a d := by
  rcases d with ⟨k, fs⟩ | ⟨t, n1, n2, es⟩
  · exact ⟨h.1, fun j q hq => th_sat_up (hg j q hq) hm (h.2 j q hq)⟩
  · obtain ⟨n, h1, h2, h3, h4⟩ := h
    exact ⟨n, h1, h2, h3, fun i hi => th_sat_up (hg i) hm (h4 i hi)⟩
/-- a name more -/
def th_up (Γ : th_Ga) (b : Nat) (x : Nat × Nat) : th_Ga := fun q => if q = b then x else Γ q
theorem th_up_s {b : Nat} {x : Nat × Nat} : th_up Γ b x b = x := if_pos rfl
theorem th_up_n {b q : Nat} {x : Nat × Nat} (h : q ≠ b) : th_up Γ b x q = Γ q := if_neg h
theorem th_up_m {b : Nat} {x : Nat × Nat} (hu : th_ro (Γ b).1 = none) : ∀ q r o : Nat, Γ q = (r, o) → (th_ro r).isSome = true → th_up Γ b x q = (r, o) := fun q r o hq hr => by
  have hn : q ≠ b := fun e => by
    rw [← e, hq] at hu
    rw [hu] at hr
    cases hr
  rw [th_up_n hn]
  exact hq
theorem th_nm0 (hI : th_I G Γ H) {b r o : Nat} {d : th_De} (hu : th_ro (Γ b).1 = none) (hr : th_ro r = some d) (hsz : G.1.2.2 ≤ b) (hok : th_ok G (th_up Γ b (r, o)) H b d) : th_I G (th_up Γ b (r, o)) H := fun a r' o' d' hg hd => by
  by_cases e : a = b
  · subst e
    rw [th_up_s] at hg
    cases hg
    cases hr.symm.trans hd
    exact ⟨hsz, hok⟩
  · rw [th_up_n e] at hg
    obtain ⟨h1, h2⟩ := hI a r' o' d' hg hd
    exact ⟨h1, th_ok_up (th_gd_all r' d' hd) (th_up_m hu) h2⟩
/-- a row gets its name -/
theorem th_nmA (hI : th_I G Γ H) {b r o t n1 n2 N : Nat} {es : Nat → th_sp} {f : Nat → Value} (hm : th_MA G Γ H b t N f) (hr : th_ro r = some (.inr (t, n1, n2, es))) (h1 : n1 ≤ N) (h2 : N ≤ n2) (hs : ∀ i, i < N → th_sat Γ b (es i) (f i)) : th_I G (th_up Γ b (r, o)) H := by
  refine th_nm0 hI hm.2.1 hr hm.1 ?_
  have hn : ∀ x, x < N → th_sl H b x = f x := fun x hx => th_sl_at hm.2.2 (arrV_read _ _ hx)
  refine ⟨N, h1, h2, ?_, fun i hi => ?_⟩
  · rw [hm.2.2]
    exact congrArg some (th_arrV (fun x hx => (hn x hx).symm))
  · rw [hn i hi]
    exact th_sat_up (th_gd_all r _ hr i) (th_up_m hm.2.1) (hs i hi)
/-- an object gets its name -/
theorem th_nmO (hI : th_I G Γ H) {a r k N : Nat} {fs : List th_sp} {V : Nat → Value} (ho : th_OB G Γ H a k N V) (hsz : G.1.2.2 ≤ a) (hr : th_ro r = some (.inl (k, fs))) (hN : fs.length = N) (hs : ∀ (j : Nat) (q : th_sp), fs[j]? = some q → th_sat Γ a q (V j)) : th_I G (th_up Γ a (r, 0)) H := by
  refine th_nm0 hI ho.1 hr hsz ?_
  obtain ⟨hu, cell, q1, q2, q3, q4⟩ := ho
  have hn : ∀ j, j < N → th_sl H a (G.1.1.2 k j) = V j := fun j hj => th_sl_at q1 (q4 j hj)
  refine ⟨⟨cell, q1, q2, q3, fun j hj => ?_⟩, fun j q hq => ?_⟩
  · show cell.slots[G.1.1.2 k j]? = some (th_sl H a (G.1.1.2 k j))
    rw [hn j (by rw [← hN]; exact hj)]
    exact q4 j (by rw [← hN]; exact hj)
  · have hj : j < N := by rw [← hN]; exact (List.getElem?_eq_some_iff.mp hq).1
    rw [hn j hj]
    exact th_sat_up (th_gd_all r _ hr j q hq) (th_up_m hu) (hs j q hq)
/-- rows without a name stay so -/
theorem th_MA_up {b b' t N : Nat} {f : Nat → Value} {x : Nat × Nat} (h : th_MA G Γ H b' t N f) (hn : b' ≠ b) : th_MA G (th_up Γ b x) H b' t N f := ⟨h.1, by rw [th_up_n hn]; exact h.2.1, h.2.2⟩
theorem th_OB_up {b a k N : Nat} {V : Nat → Value} {x : Nat × Nat} (h : th_OB G Γ H a k N V) (hn : a ≠ b) : th_OB G (th_up Γ b x) H a k N V := ⟨by rw [th_up_n hn]; exact h.1, h.2⟩
/-- a cell that is a row of a memo -/
def th_MR (G : th_G) (Γ : th_Ga) (H : Heap) (q : Nat) : Prop := ∃ a o j : Nat, Γ a = (12, o) ∧ 1 ≤ j ∧ j ≤ 4 ∧ th_sl H a (G.1.1.2 3 j) = .ref q
/-- the class's relations, as cells come: new floors, steps, memos apart -/
theorem th_RC_X (hI : th_I G Γ H) (hR : th_RC G Γ H) {a0 : Nat} (hu : th_ro (Γ a0).1 = none) (hm : ¬ th_MR G Γ H a0) (hI1 : th_I G Γ1 H1) (hz : H.size ≤ H1.size) (hX : ∀ q, q < H.size → q ≠ a0 → Γ1 q = Γ q ∧ H1[q]? = H[q]?)
    (hN : ∀ q r o : Nat, Γ1 q = (r, o) → (q = a0 ∨ H.size ≤ q) → (r = 3 → th_XY G H1 q) ∧ (r = 18 ∨ r = 19 → th_PS H1 q) ∧ r ≠ 12) : th_RC G Γ1 H1 := by
  obtain ⟨r1, r2, r3, r4⟩ := hR
  have hold : ∀ q r o : Nat, Γ1 q = (r, o) → ¬ (q = a0 ∨ H.size ≤ q) → Γ q = (r, o) ∧ H1[q]? = H[q]? := fun q r o h1 h2 => by
    obtain ⟨e1, e2⟩ := hX q (by omega) (fun e => h2 (Or.inl e))
    exact ⟨e1.symm.trans h1, e2⟩
  have hown : ∀ b r o : Nat, Γ b = (r, o) → (th_ro r).isSome = true → H1[b]? = H[b]? := fun b r o h1 h2 => by
    cases hd : th_ro r with
    | none => rw [hd] at h2; cases h2
    | some d =>
      have hl := th_ok_lt (hI b r o d h1 hd).2
      exact (hX b hl (fun e => by rw [← e, h1] at hu; rw [hd] at hu; cases hu)).2
  refine ⟨fun a o ha => ?_, fun b o hb => ?_, fun a o ha => ?_, fun a a' o o' ha ha' => ?_⟩
  · by_cases w : a = a0 ∨ H.size ≤ a
    · exact (hN a 3 o ha w).1 rfl
    · obtain ⟨g1, g2⟩ := hold a 3 o ha w
      obtain ⟨bx, m1, k1⟩ := th_fo hI g1 ro_3 (j := 3) (r2 := 7) rfl
      obtain ⟨by_, m2, k2⟩ := th_fo hI g1 ro_3 (j := 4) (r2 := 8) rfl
      intro bx' by' e1 e2 c hc hne
      rw [th_sl_kept g2] at e1 e2
      cases m1.symm.trans e1
      cases m2.symm.trans e2
      rw [th_sl_kept (hown bx 7 a k1 rfl)] at hne
      rw [th_sl_kept (hown by_ 8 a k2 rfl)]
      exact r1 a o g1 bx by_ m1 m2 c hc hne
  · by_cases w : b = a0 ∨ H.size ≤ b
    · rcases hb with hb | hb
      · exact (hN b 18 o hb w).2.1 (Or.inl rfl)
      · exact (hN b 19 o hb w).2.1 (Or.inr rfl)
    · have hb' : (Γ b = (18, o) ∨ Γ b = (19, o)) ∧ H1[b]? = H[b]? := by
        rcases hb with hb | hb
        · exact ⟨Or.inl (hold b 18 o hb w).1, (hold b 18 o hb w).2⟩
        · exact ⟨Or.inr (hold b 19 o hb w).1, (hold b 19 o hb w).2⟩
      intro u hu' c hc
      rw [th_sl_kept hb'.2, th_sl_kept hb'.2]
      exact r2 b o hb'.1 u hu' c hc
  · by_cases w : a = a0 ∨ H.size ≤ a
    · exact absurd rfl (hN a 12 o ha w).2.2
    · obtain ⟨g1, g2⟩ := hold a 12 o ha w
      obtain ⟨n, b1, b2, b3, b4, ⟨hn, m0, m1, m2, m3, m4, hd, ⟨f1, p1, q1, s1⟩, ⟨f2, p2, q2, s2⟩, ⟨f3, p3, q3, s3⟩, ⟨f4, ⟨p4, q4, s4⟩, r5⟩, u, mu, hu5⟩, hms9⟩ := r3 a o g1
      have ks : ∀ i, th_sl H1 a i = th_sl H a i := th_sl_kept g2
      have hb : ∀ b j : Nat, 1 ≤ j → j ≤ 4 → th_sl H a (G.1.1.2 3 j) = .ref b → th_ro (Γ b).1 = none → b < H.size → th_ro (Γ1 b).1 = none ∧ H1[b]? = H[b]? := fun b j j1 j4 e1 e2 e3 => by
        obtain ⟨x1, x2⟩ := hX b e3 (fun e => hm ⟨a, o, j, g1, j1, j4, e ▸ e1⟩)
        exact ⟨by rw [x1]; exact e2, x2⟩
      have lt : ∀ {b t N : Nat} {f : Nat → Value}, H[b]? = some (arrV (G.1.2.1 t) N f) → b < H.size := fun h => (Array.getElem?_eq_some_iff.mp h).1
      have y1 := hb b1 1 (by omega) (by omega) m1 q1 (lt s1)
      have y2 := hb b2 2 (by omega) (by omega) m2 q2 (lt s2)
      have y3 := hb b3 3 (by omega) (by omega) m3 q3 (lt s3)
      have y4 := hb b4 4 (by omega) (by omega) m4 q4 (lt s4)
      exact ⟨n, b1, b2, b3, b4, ⟨hn, (ks _).trans m0, (ks _).trans m1, (ks _).trans m2, (ks _).trans m3, (ks _).trans m4, hd, ⟨f1, p1, y1.1, y1.2.trans s1⟩, ⟨f2, p2, y2.1, y2.2.trans s2⟩, ⟨f3, p3, y3.1, y3.2.trans s3⟩, ⟨f4, ⟨p4, y4.1, y4.2.trans s4⟩, r5⟩, u, (ks _).trans mu, hu5⟩, fun u9 hu9 => th_MSu_k y1.2 y2.2 y4.2 (hms9 u9 ((ks _).symm.trans hu9))⟩
  · have e1 := hold a 12 o ha (fun w => (hN a 12 o ha w).2.2 rfl)
    have e2 := hold a' 12 o' ha' (fun w => (hN a' 12 o' ha' w).2.2 rfl)
    exact r4 a a' o o' e1.1 e2.1
end TN
end
section
section TP
variable {G : th_G} {Γ Γ0 Γ1 : th_Ga} {H H0 H1 : Heap} {locs locs1 : List Loc} {a0 : Nat}
theorem th_MR_lt (hR : th_RC G Γ H) {q : Nat} (h : th_MR G Γ H q) : q < H.size := by
  obtain ⟨a, o, j, g, j1, j4, e⟩ := h
  obtain ⟨n, b1, b2, b3, b4, ⟨-, -, m1, m2, m3, m4, -, ⟨f1, -, -, s1⟩, ⟨f2, -, -, s2⟩, ⟨f3, -, -, s3⟩, ⟨f4, ⟨-, -, s4⟩, -⟩, -⟩, hms9⟩ := hR.2.2.1 a o g
  have lt : ∀ {b t N : Nat} {f : Nat → Value}, H[b]? = some (arrV (G.1.2.1 t) N f) → b < H.size := fun h => (Array.getElem?_eq_some_iff.mp h).1
  have hj : j = 1 ∨ j = 2 ∨ j = 3 ∨ j = 4 := by omega
  rcases hj with rfl | rfl | rfl | rfl
  · cases m1.symm.trans e; exact lt s1
  · cases m2.symm.trans e; exact lt s2
  · cases m3.symm.trans e; exact lt s3
  · cases m4.symm.trans e; exact lt s4
theorem th_MR_un (hR : th_RC G Γ H) {q : Nat} (h : th_MR G Γ H q) : th_ro (Γ q).1 = none := by
  obtain ⟨a, o, j, g, j1, j4, e⟩ := h
  obtain ⟨n, b1, b2, b3, b4, ⟨-, -, m1, m2, m3, m4, -, ⟨f1, -, s1, -⟩, ⟨f2, -, s2, -⟩, ⟨f3, -, s3, -⟩, ⟨f4, ⟨-, s4, -⟩, -⟩, -⟩, hms9⟩ := hR.2.2.1 a o g
  have hj : j = 1 ∨ j = 2 ∨ j = 3 ∨ j = 4 := by omega
  rcases hj with rfl | rfl | rfl | rfl
  · cases m1.symm.trans e; exact s1
  · cases m2.symm.trans e; exact s2
  · cases m3.symm.trans e; exact s3
  · cases m4.symm.trans e; exact s4
/-- a cell without a name changed, or came -/
theorem th_MR_s {b q : Nat} (hb : th_ro (Γ b).1 = none) (oq : ∀ q, q ≠ b → H1[q]? = H[q]?) (h : th_MR G Γ H1 q) : th_MR G Γ H q := by
  obtain ⟨a, o, j, g, j1, j4, e⟩ := h
  have hn : a ≠ b := fun w => by
    rw [← w, g] at hb
    cases hb
  exact ⟨a, o, j, g, j1, j4, (th_sl_kept (oq a hn) _).symm.trans e⟩
theorem th_RC_s (hI : th_I G Γ H) (hR : th_RC G Γ H) {b : Nat} (hb : th_ro (Γ b).1 = none) (hm : ¬ th_MR G Γ H b) (hI1 : th_I G Γ H1) (hz : H.size ≤ H1.size) (oq : ∀ q, q ≠ b → H1[q]? = H[q]?) : th_RC G Γ H1 := by
  refine th_RC_X hI hR hb hm hI1 hz (fun q _ hq => ⟨rfl, oq q hq⟩) (fun q r o hg hq => ?_)
  have hu : th_ro r = none := by
    rcases hq with rfl | hq
    · rw [hg] at hb; exact hb
    · have := tc_un hI hq
      rw [hg] at this
      exact this
  refine ⟨fun e => ?_, fun e => ?_, fun e => ?_⟩
  · subst e; cases hu
  · rcases e with e | e <;> (subst e; cases hu)
  · subst e; cases hu
/-- a constructor's run, with the class's relations -/
def th_NR (G : th_G) (Γ0 Γ : th_Ga) (a0 : Nat) (H0 H : Heap) (locs : List Loc) : Prop := th_N G Γ0 Γ a0 H0 H locs ∧ th_RC G Γ H ∧ ¬ th_MR G Γ H a0 ∧ ∀ q, th_MR G Γ H q → th_MR G Γ0 H0 q ∨ H0.size ≤ q
theorem th_NR_s {b : Nat} (h : th_NR G Γ0 Γ a0 H0 H locs) (h1 : th_N G Γ0 Γ a0 H0 H1 locs1) (hb : th_ro (Γ b).1 = none) (hm : ¬ th_MR G Γ H b) (hz : H.size ≤ H1.size) (oq : ∀ q, q ≠ b → H1[q]? = H[q]?) : th_NR G Γ0 Γ a0 H0 H1 locs1 :=
  ⟨h1, th_RC_s h.1.1 h.2.1 hb hm h1.1 hz oq, fun w => h.2.2.1 (th_MR_s hb oq w), fun q w => h.2.2.2 q (th_MR_s hb oq w)⟩
/-- what a constructor gives -/
def th_NY (G : th_G) (Γ Γ1 : th_Ga) (a0 r : Nat) (Ls : List Nat) (H H1 : Heap) : Prop := th_NX G Γ Γ1 a0 H H1 ∧ th_RC G Γ1 H1 ∧ Γ1 a0 = (r, 0) ∧ (∀ q, th_MR G Γ1 H1 q → th_MR G Γ H q ∨ H.size ≤ q) ∧ ∀ q x o : Nat, Γ1 q = (x, o) → (q = a0 ∨ H.size ≤ q) → (th_ro x).isSome = true → x ∈ Ls
/-- behind a constructor that was called -/
theorem th_NR_c {b r : Nat} {Ls : List Nat} (h : th_NR G Γ0 Γ a0 H0 H locs) (hy : th_NY G Γ Γ1 b r Ls H H1) (hb : H0.size ≤ b) (hS : va_S (fun q => G.1.2.2 ≤ q) H0 H1 locs1) : th_NR G Γ0 Γ1 a0 H0 H1 locs1 := by
  obtain ⟨⟨hI, hS0, hO, hG, hu, hsz, hlt0⟩, hR, hm, hM⟩ := h
  obtain ⟨⟨hI1, hz, hX⟩, hR1, hn, hM1, -⟩ := hy
  have hle := hS0.1
  refine ⟨⟨hI1, hS, fun q h1 h2 => ?_, fun q h1 h2 => ?_, ?_, hsz, hlt0⟩, hR1, fun w => ?_, fun q w => ?_⟩
  · exact (hX q (by omega) (by omega)).2.trans (hO q h1 h2)
  · exact (hX q (by omega) (by omega)).1.trans (hG q h1 h2)
  · rw [(hX a0 (by omega) (by omega)).1]
    exact hu
  · rcases hM1 a0 w with w | w
    · exact hm w
    · omega
  · rcases hM1 q w with w | w
    · exact hM q w
    · exact Or.inr (by omega)
theorem tc_MAc {b r b' t N : Nat} {Ls : List Nat} {f : Nat → Value} (h : th_MA G Γ H b' t N f) (hy : th_NY G Γ Γ1 b r Ls H H1) (hn : b' ≠ b) : th_MA G Γ1 H1 b' t N f := by
  obtain ⟨x1, x2⟩ := hy.1.2.2 b' (tm_lt h) hn
  exact ⟨h.1, by rw [x1]; exact h.2.1, x2.trans h.2.2⟩
theorem tc_OBc {b r k N : Nat} {Ls : List Nat} {V : Nat → Value} (h : th_OB G Γ H a0 k N V) (hy : th_NY G Γ Γ1 b r Ls H H1) (hlt : a0 < H.size) (hn : a0 ≠ b) : th_OB G Γ1 H1 a0 k N V := by
  obtain ⟨x1, x2⟩ := hy.1.2.2 a0 hlt hn
  exact ⟨by rw [x1]; exact h.1, h.2.kept x2⟩
theorem tc_OBo {b a k N : Nat} {V : Nat → Value} (h : th_OB G Γ H a k N V) (oq : ∀ q, q ≠ b → H1[q]? = H[q]?) (hn : a ≠ b) : th_OB G Γ H1 a k N V := ⟨h.1, h.2.kept (oq a hn)⟩
/-- the class's relations over a name more -/
theorem th_RC_up (hI : th_I G Γ H) (hR : th_RC G Γ H) {b : Nat} {x : Nat × Nat} (hb : th_ro (Γ b).1 = none) (hm : ¬ th_MR G Γ H b) (hI1 : th_I G (th_up Γ b x) H) (h3 : x.1 = 3 → th_XY G H b) (h18 : x.1 = 18 ∨ x.1 = 19 → th_PS H b) (h12 : x.1 ≠ 12) : th_RC G (th_up Γ b x) H := by
  refine th_RC_X hI hR hb hm hI1 (Nat.le_refl _) (fun q _ hq => ⟨th_up_n hq, rfl⟩) (fun q r o hg hq => ?_)
  by_cases e : q = b
  · subst e
    rw [th_up_s] at hg
    subst hg
    exact ⟨h3, h18, h12⟩
  · rw [th_up_n e] at hg
    have hu : th_ro r = none := by
      rcases hq with hq | hq
      · exact absurd hq e
      · have := tc_un hI hq
        rw [hg] at this
        exact this
    refine ⟨fun e => ?_, fun e => ?_, fun e => ?_⟩
    · subst e; cases hu
    · rcases e with e | e <;> (subst e; cases hu)
    · subst e; cases hu
theorem th_MR_up {b q : Nat} {x : Nat × Nat} (h12 : x.1 ≠ 12) (h : th_MR G (th_up Γ b x) H q) : th_MR G Γ H q := by
  obtain ⟨a, o, j, g, j1, j4, e⟩ := h
  have hn : a ≠ b := fun w => by
    subst w
    rw [th_up_s] at g
    exact h12 (by rw [g])
  rw [th_up_n hn] at g
  exact ⟨a, o, j, g, j1, j4, e⟩
end TP
end
section
section TQ
variable {p : Program} {l : Launch} {e : Env} {R : Room} {s : State} {m : MethodId} {args : Array Value} {below : List Frame} {meth : Method} {c : Code} {H H0 H1 : Heap} {locs : List Loc} {cells slots : Nat} {Q : State → Prop}
variable {cc : ByteArray} {pc : Nat} {ls : Array Slot} {rest : List Value} {G : th_G} {Γ Γ0 Γ1 : th_Ga} {a0 : Nat}
theorem tc_get {nL : Nat} {own : String} (hC : th_C p s m args c cc nL own G) {k : Nat} {C : String} {T : u_T} {N : Nat} {ty : Nat → FieldType} (hcf : th_CF k C T N ty) {a j index : Nat} {V : Nat → Value} {v : Value} (ho : th_OB G Γ H a k N V) (hj : j < N) (hv : V j = v)
    (hl : Cond.fieldLink own index C (T j).2.1 (T j).2.2.1 ∈ th_tb) (hdg : decode cc pc = .ok (.getfield index, 3))
    (kk : W p l e R s m args below meth c H locs cells slots Q (F0 m (pc + 3) ls (v :: rest))) : W p l e R s m args below meth c H locs cells slots Q (F0 m pc ls (.ref a :: rest)) := by
  subst hv
  obtain ⟨hx, hb, -, hown, hts, hK, -⟩ := hC
  obtain ⟨hc, hin, hty, hnm, hdc⟩ := hcf
  obtain ⟨-, cell, q1, q2, q3, q4⟩ := ho
  obtain ⟨hS, hfc, kC, hkC, hkind⟩ := hK.1 k _ hc
  obtain ⟨cf, kf, fi, f, hi, hsl⟩ := hS j hj
  have hi' := hi
  rw [hdc j hj] at hi'
  refine W.getf hx hb hown (hts _ hl) hi' (u_facts hfc hkC (u_lays hts hin hj) hi).1 q1 (by rw [q3]; exact fun h => by cases h) (v := V j) ?_ rfl rfl hdg kk
  rw [hsl, q4 j hj]
/-- a cell without a name is stored into -/
theorem tc_Nst (hB : th_N G Γ0 Γ a0 H0 H locs) {b i : Nat} (hu : th_ro (Γ b).1 = none) (hsz : G.1.2.2 ≤ b) (hb : H0.size ≤ b) (z : H1.size = H.size) (oq : ∀ q, q ≠ b → H1[q]? = H[q]?) : th_N G Γ0 Γ a0 H0 H1 (locs ++ [⟨b, i⟩]) := by
  obtain ⟨hI, hS, hO, hG, hu0, hsz0, hlt0⟩ := hB
  exact ⟨tc_Iold hI hu (fun q _ hq => oq q hq), hS.put z oq hsz, fun q h1 h2 => (oq q (by omega)).trans (hO q h1 h2), hG, hu0, hsz0, hlt0⟩
theorem tc_iast {nL : Nat} {own : String} (hC : th_C p s m args c cc nL own G) (hB : th_N G Γ0 Γ a0 H0 H locs) {b N : Nat} {f : Nat → Value} (hm : th_MA G Γ H b 0 N f) (hlb : H0.size ≤ b) {i v : Int32} {x : Int} (hi : i.toInt = x) (h0 : 0 ≤ x) (h1 : x < (N : Int)) (hdg : decode cc pc = .ok (.iastore, 1))
    (kk : ∀ (H1 : Heap) (locs1 : List Loc), th_N G Γ0 Γ a0 H0 H1 locs1 → th_MA G Γ H1 b 0 N (updV f x.toNat (.int v)) → H1.size = H.size → (∀ q, q ≠ b → H1[q]? = H[q]?) → W p l e R s m args below meth c H1 locs1 cells slots Q (F0 m (pc + 1) ls rest)) : W p l e R s m args below meth c H locs cells slots Q (F0 m pc ls (.int v :: .int i :: .ref b :: rest)) := by
  have hb : i.toNatClampNeg = x.toNat := by rw [← hi]; rfl
  have hlt : x.toNat < N := by omega
  refine W.iast hC.1 hC.2.1 hm.2.2 (th_tys hC (t0 := 0) rfl N _) (fun q => by cases q) ?_ rfl rfl hdg fun H1 e1 z oq => ?_
  · rw [arrV_size, hb]
    exact ti_in (x := i) (n := N) (by omega) (by omega) |> fun z => by rw [← hb]; exact z
  · refine kk H1 _ (tc_Nst hB hm.2.1 hm.1 hlb z oq) ⟨hm.1, hm.2.1, ?_⟩ z oq
    rw [e1, hb, arrV_store]
theorem tc_bast {nL : Nat} {own : String} (hC : th_C p s m args c cc nL own G) (hB : th_N G Γ0 Γ a0 H0 H locs) {b N : Nat} {f : Nat → Value} (hm : th_MA G Γ H b 3 N f) (hlb : H0.size ≤ b) {i v : Int32} {x : Int} (hi : i.toInt = x) (h0 : 0 ≤ x) (h1 : x < (N : Int)) (hv : narrow .byte (.int v) = .int v) (hdg : decode cc pc = .ok (.bastore, 1))
    (kk : ∀ (H1 : Heap) (locs1 : List Loc), th_N G Γ0 Γ a0 H0 H1 locs1 → th_MA G Γ H1 b 3 N (updV f x.toNat (.int v)) → H1.size = H.size → (∀ q, q ≠ b → H1[q]? = H[q]?) → W p l e R s m args below meth c H1 locs1 cells slots Q (F0 m (pc + 1) ls rest)) : W p l e R s m args below meth c H locs cells slots Q (F0 m pc ls (.int v :: .int i :: .ref b :: rest)) := by
  have hb : i.toNatClampNeg = x.toNat := by rw [← hi]; rfl
  have hlt : x.toNat < N := by omega
  refine W.bast hC.1 hC.2.1 hm.2.2 (th_tys hC (t0 := 3) rfl N _) (fun q => by cases q) ?_ rfl rfl hdg fun H1 e1 z oq => ?_
  · rw [arrV_size, hb]
    exact ti_in (x := i) (n := N) (by omega) (by omega) |> fun z => by rw [← hb]; exact z
  · refine kk H1 _ (tc_Nst hB hm.2.1 hm.1 hlb z oq) ⟨hm.1, hm.2.1, ?_⟩ z oq
    rw [e1, hb, hv, arrV_store]
theorem tc_anew {nL : Nat} {own C : String} (hC : th_C p s m args c cc nL own G) (hB : th_N G Γ0 Γ a0 H0 H locs) {t index : Nat} (ht : (th_ty G.1.2.1)[t]? = some (G.1.2.1 t, .object C)) (hover : va_AO C s) (hcl : Cond.classLink own index C ∈ th_tb)
    {n : Int32} {N : Nat} (hn : n.toInt = (N : Int)) (hbytes : N * 4 ≤ 536870912) (hcells : cells + 1 ≤ R.cells) (hslots : slots + N ≤ R.slots) (hdg : decode cc pc = .ok (.anewarray index, 3))
    (kk : ∀ (b : Nat) (H1 : Heap), b = H.size → H1.size = H.size + 1 → (∀ q, q ≠ b → H1[q]? = H[q]?) → th_N G Γ0 Γ a0 H0 H1 locs → th_MA G Γ H1 b t N (fun _ => .null) → W p l e R s m args below meth c H1 locs (cells + 1) (slots + N) Q (F0 m (pc + 3) ls (.ref b :: rest))) : W p l e R s m args below meth c H locs cells slots Q (F0 m pc ls (.int n :: rest)) := by
  have hnn : n.toNatClampNeg = N := by
    show n.toInt.toNat = N
    omega
  subst hnn
  refine W.anew hC.1 hC.2.1 hC.2.2.2.1 (hC.2.2.2.2.1 _ hcl) (va_AO.use hover) rfl hdg rfl (fun q => by have := ti_lt q; have h0 : (0 : Int32).toInt = 0 := rfl; omega) hbytes hcells hslots fun cA kA comp f1 f2 f3 f4 => ?_
  generalize hH1 : H.push ({ cls := cA, slots := Array.replicate n.toNatClampNeg .null, vm := .none } : Cell) = H1
  have z1 : H1.size = H.size + 1 := by rw [← hH1, Array.size_push]
  have e1 : H1[H.size]? = some (arrV cA n.toNatClampNeg (fun _ => .null)) := by rw [← hH1, Array.getElem?_push_size, ← arrV_new]
  have o1 : ∀ q : Nat, q < H.size → H1[q]? = H[q]? := fun q hq => by rw [← hH1, Array.getElem?_push, if_neg (Nat.ne_of_lt hq)]
  have hcA : cA = G.1.2.1 t := by
    obtain ⟨kA', comp', g2, g3, g4, g1⟩ := (hC.2.2.2.2.2.1.2 t _ ht).2
    have e3 : comp = comp' := Option.some.inj (f4.symm.trans g4)
    subst e3
    exact Option.some.inj (f1.symm.trans g1)
  subst hcA
  have oq : ∀ q, q ≠ H.size → H1[q]? = H[q]? := fun q hq => by
    by_cases h : q < H.size
    · exact o1 q h
    · rw [Array.getElem?_eq_none (by omega), Array.getElem?_eq_none (by omega)]
  obtain ⟨hI, hS, hO, hG, hu, hsz, hlt0⟩ := hB
  have hle := hS.1
  have hun : th_ro (Γ H.size).1 = none := tc_un hI (Nat.le_refl _)
  exact kk H.size H1 rfl z1 oq ⟨tc_Iold hI hun (fun q _ hq => oq q hq), ⟨Nat.le_trans hS.1 (by omega), fun q h1 h2 => (o1 q (Nat.lt_of_lt_of_le h1 hS.1)).trans (hS.2.1 q h1 h2), hS.2.2⟩, fun q h1 h2 => (o1 q (by omega)).trans (hO q h1 h2), hG, hu, hsz, hlt0⟩ ⟨by omega, hun, e1⟩
theorem tc_aast {nL : Nat} {own C : String} (hC : th_C p s m args c cc nL own G) (hB : th_N G Γ0 Γ a0 H0 H locs) {b t N : Nat} {f : Nat → Value} (hm : th_MA G Γ H b t N f) (hlb : H0.size ≤ b) (ht : (th_ty G.1.2.1)[t]? = some (G.1.2.1 t, .object C)) {v r o k Nf : Nat} {fs : List th_sp} {T : u_T} (hv : Γ v = (r, o)) (hr : th_ro r = some (.inl (k, fs))) (hc : th_cl[k]? = some (C, T, Nf)) {i : Int32} {x : Int} (hi : i.toInt = x) (h0 : 0 ≤ x) (h1 : x < (N : Int)) (hdg : decode cc pc = .ok (.aastore, 1))
    (kk : ∀ (H1 : Heap) (locs1 : List Loc), th_N G Γ0 Γ a0 H0 H1 locs1 → th_MA G Γ H1 b t N (updV f x.toNat (.ref v)) → H1.size = H.size → (∀ q, q ≠ b → H1[q]? = H[q]?) → W p l e R s m args below meth c H1 locs1 cells slots Q (F0 m (pc + 1) ls rest)) : W p l e R s m args below meth c H locs cells slots Q (F0 m pc ls (.ref v :: .int i :: .ref b :: rest)) := by
  have hb : i.toNatClampNeg = x.toNat := by rw [← hi]; rfl
  have hlt : x.toNat < N := by omega
  have h00 : ¬ i < 0 := fun q => by have := ti_lt q; have h0 : (0 : Int32).toInt = 0 := rfl; omega
  obtain ⟨-, ⟨cellV, g1, g2, g3, -⟩, -⟩ := hB.1 v r o _ hv hr
  have hcls := (hC.2.2.2.2.2.1.1 k _ hc).2
  obtain ⟨kA, comp, k1, k2, k3, -⟩ := (hC.2.2.2.2.2.1.2 t _ ht).2
  have hcomp : comp = G.1.1.1 k := Option.some.inj (k3.symm.trans hcls.1)
  subst hcomp
  obtain ⟨kC, hkC, -⟩ := hcls.2
  refine W.aast hC.1 hC.2.1 hm.2.2 (fun q h => by cases h) (fun h => by cases h) k1 k2 rfl hkC ⟨h00, by show _ < (arrV _ _ _).slots.size; rw [arrV_size, hb]; exact hlt⟩ g1 (fun q h => by rw [g3] at h; cases h) (by rw [g2]; exact hkC) (by rw [g2]; exact va_assign hcls) rfl rfl hdg fun H1 e1 z oq => ?_
  refine kk H1 _ (tc_Nst hB hm.2.1 hm.1 hlb z oq) ⟨hm.1, hm.2.1, ?_⟩ z oq
  rw [e1, hb, arrV_store]
theorem tc_XY {a b : Nat} {V : Nat → Value} {cA : ClassId} (ho : th_OB G Γ H a 1 11 V) (h4 : V 4 = .ref b) (ka : H[b]? = some (arrV cA 9 (fun _ => .int 0))) : th_XY G H a := by
  obtain ⟨-, cell, q1, q2, q3, q4⟩ := ho
  intro bx by_ e1 e2 c hc hne
  have e3 : th_sl H a (G.1.1.2 1 4) = V 4 := th_sl_at q1 (q4 4 (by decide))
  rw [h4] at e3
  cases e3.symm.trans e2
  exact ⟨0, th_sl_at ka (arrV_read _ _ hc), by decide⟩
theorem tc_PS {b : Nat} {cA : ClassId} (ka : H[b]? = some (arrV cA 480 (fun _ => .int 0))) : th_PS H b := fun u hu c hc _ => ⟨0, th_sl_at ka (arrV_read _ _ (by omega)), by decide⟩
theorem th_new_0 (hI : th_I G Γ H) (hu : th_ro (Γ a0).1 = none) : ∀ q x o : Nat, Γ q = (x, o) → (q = a0 ∨ H.size ≤ q) → (th_ro x).isSome = true → x ∈ ([] : List Nat) := fun q x o hg hq hs => by
  have q9 : th_ro (Γ q).1 = none := by
    rcases hq with rfl | hq
    · exact hu
    · exact tc_un hI hq
  rw [hg] at q9
  rw [q9] at hs
  cases hs
theorem th_new_c {A B : List Nat} {b r : Nat} (hN : ∀ q x o : Nat, Γ q = (x, o) → (q = a0 ∨ H0.size ≤ q) → (th_ro x).isSome = true → x ∈ A) (hy : th_NY G Γ Γ1 b r B H H1) : ∀ q x o : Nat, Γ1 q = (x, o) → (q = a0 ∨ H0.size ≤ q) → (th_ro x).isSome = true → x ∈ A ++ B := fun q x o hg hq hs => by
  by_cases w : q = b ∨ H.size ≤ q
  · exact List.mem_append_right _ (hy.2.2.2.2 q x o hg w hs)
  · have := (hy.1.2.2 q (by omega) (by omega)).1
    rw [this] at hg
    exact List.mem_append_left _ (hN q x o hg hq hs)
end TQ
end
