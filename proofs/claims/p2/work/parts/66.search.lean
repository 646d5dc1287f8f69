section MO9
variable {G : th_G} {Γ : th_Ga} {H H1 : Heap} {L : List (Nat × Nat)} {a : Nat}
/-- the first n of a row of carpets lie within twelve by twelve -/
def mo_rw (G : th_G) (H : Heap) (a : Nat) (n : Int) : Prop := ∀ z : Int, 0 ≤ z → z < n → mo_v G H a 36 z % 12 + mo_v G H a 2 (29 + mo_v G H a 35 z) ≤ 12 ∧ mo_v G H a 36 z / 12 + mo_v G H a 2 (29 + mo_v G H a 35 z) ≤ 12
theorem mo_rw_F {n : Int} (h : mo_rw G H a n) (hI : th_I G Γ H1) (ha : Γ a = (46, 0)) (hF : th_F G Γ L H H1) (hL : (th_in L 46 2 = false ∧ th_in L 48 0 = false) ∧ (th_in L 46 35 = false ∧ th_in L 64 0 = false) ∧ (th_in L 46 36 = false ∧ th_in L 65 0 = false)) : mo_rw G H1 a n := by
  unfold mo_rw
  rw [mo_v_F (j := 2) (r := 48) hI hF ha rfl ro_48 hL.1.1 hL.1.2, mo_v_F (j := 35) (r := 64) hI hF ha rfl ro_64 hL.2.1.1 hL.2.1.2, mo_v_F (j := 36) (r := 65) hI hF ha rfl ro_65 hL.2.2.1 hL.2.2.2]
  exact h
theorem mo_rw_0 {n : Int} (h : n ≤ 0) : mo_rw G H a n := fun z a b => by omega
theorem mo_rw_le {n m : Int} (h : mo_rw G H a n) (hm : m ≤ n) : mo_rw G H a m := fun z a b => h z a (by omega)
theorem mo_rw_s {n c q : Int} (h : mo_rw G H a n) (e2 : mo_v G H1 a 2 = mo_v G H a 2) (e35 : mo_v G H1 a 35 = mo_u (mo_v G H a 35) n c) (e36 : mo_v G H1 a 36 = mo_u (mo_v G H a 36) n q) (f1 : q % 12 + mo_v G H a 2 (29 + c) ≤ 12) (f2 : q / 12 + mo_v G H a 2 (29 + c) ≤ 12) : mo_rw G H1 a (n + 1) := by
  intro z z0 z1
  rw [e2, e35, e36]
  by_cases w : z = n
  · rw [mo_us w, mo_us w]
    exact ⟨f1, f2⟩
  · rw [mo_un w, mo_un w]
    exact h z z0 (by omega)
theorem mo_dl {a b : Int} (hb : 0 < b) (h : a < b * b) : a / b < b := Int.ediv_lt_of_lt_mul hb h
theorem mo_pc_pos {x c : Int32} (h0 : 0 ≤ c.toInt) (h1 : c.toInt ≤ 8) (hb : mo_bt x c.toInt) : 1 ≤ mo_pc x := by
  have := mo_pc_drop (z3 := x &&& ((1 <<< (c &&& 31)) ^^^ (-1))) h0 h1 hb rfl rfl rfl
  omega
end MO9
set_option maxHeartbeats 4000000 in
set_option maxRecDepth 100000 in
theorem c_X12_laysPrices (l : Launch) (G : th_G) (Γ : th_Ga) (H0 : Heap) (hI : th_I G Γ H0) (hU : dv_U Γ) (a0 : Nat) (h0 : Γ a0 = (46, 0)) (hR : th_RE a0 G Γ H0) (p1 : Int32) : Met l yX12_laysPrices (.code yX12_laysPrices cX12_laysPrices 6 (none) :: th_tb) ({ frames := 52, cells := 0, slots := 0, locals := 1650 } : Room) (th_P [.ref a0, .int p1] G H0) (th_Q (fun (v : Option Value) (H1 : Heap) => v = none ∧ th_I G Γ H1 ∧ th_F G Γ [(63, 0), (46, 22), (46, 24), (58, 0), (46, 23), (46, 25)] H0 H1 ∧ th_RE a0 G Γ H1 ∧ (f_X12_laysPrices (dv G Γ H0) (a0 : Int) p1.toInt = (dv G Γ H1, 0))) G) 0 0 (fun q => G.2.2 ≤ q) := by
  refine th_met RX12 (by decide) rfl (Nat.le_of_ble_eq_true rfl) ?_
  intro p e s m below meth c hC hH hr hlocks hnm ls hl
  have hx := hC.1
  have hb := hC.2.1
  have hB : th_B G Γ Γ [(63, 0), (46, 22), (46, 24), (58, 0), (46, 23), (46, 25)] H0 H0 [] := ⟨hI, va_S.rf, th_F_rf⟩
  have hl : lv_has ls 6 [(0, .ref a0), (1, .int p1)] := hl
  have lp1 := ti_lo p1; have up1 := ti_hi p1
  obtain ⟨F, hF0⟩ : ∃ F, F = f_X12_laysPrices (dv G Γ H0) ((a0 : Int)) (p1.toInt) := ⟨_, rfl⟩
  have hF := hF0.trans (f_X12_laysPrices.eq_1 (dv G Γ H0) ((a0 : Int)) (p1.toInt))
  refine lv_iconst (v := 0) hx hb dX12_laysPrices_0 (by decide) ?_
  refine lv_istore_n (lv' := [(2, .int 0), (0, .ref a0), (1, .int p1)]) hx hb dX12_laysPrices_1 rfl hl (by decide) rfl (fun ls hl => ?_)
  have lp2 : ∀ (n2 : Nat) (H2 : Heap) (locs : List Loc) (ls : Array Slot) (j2_2 : Int32), th_B G Γ Γ [(63, 0), (46, 22), (46, 24), (58, 0), (46, 23), (46, 25)] H0 H2 locs → th_RE a0 G Γ H2 → lv_has ls 6 [(0, .ref a0), (1, .int p1), (2, .int j2_2)] → F = dv_lp f_X12_laysPrices_2b (dv G Γ H2, (a0 : Int), p1.toInt, j2_2.toInt) → 0 ≤ j2_2.toInt → j2_2.toInt ≤ 9 → (2147483648 : Int) - j2_2.toInt ≤ (n2 : Int) → W p l e ({ frames := 52, cells := 0, slots := 0, locals := 1650 } : Room) s m ([.ref a0, .int p1] : List Value).toArray below meth c H2 locs 0 0 (MQ below (th_Q (fun (v : Option Value) (H1 : Heap) => v = none ∧ th_I G Γ H1 ∧ th_F G Γ [(63, 0), (46, 22), (46, 24), (58, 0), (46, 23), (46, 25)] H0 H1 ∧ th_RE a0 G Γ H1 ∧ (f_X12_laysPrices (dv G Γ H0) (a0 : Int) p1.toInt = (dv G Γ H1, 0))) G) ([.ref a0, .int p1] : List Value).toArray s 0 0 (fun q => G.2.2 ≤ q)) (F0 m 2 ls []) := by
    intro n2
    induction n2 with
    | zero => intro H2 locs ls j2_2 hB hR hl hF g2_0 g2_1 hm2; exact absurd hm2 (by have := ti_hi j2_2; omega)
    | succ n2 ih2 =>
      intro H2 locs ls j2_2 hB hR hl hF g2_0 g2_1 hm2
      have lj2_2 := ti_lo j2_2; have uj2_2 := ti_hi j2_2
      have hm2 : (2147483648 : Int) - j2_2.toInt ≤ (n2 : Int) + 1 := by omega
      replace hF := hF.trans (dv_lp_eq)
      replace hF := hF.trans (congrArg (dv_k f_X12_laysPrices_2b) (f_X12_laysPrices_2c.eq_1 (dv G Γ H2) ((a0 : Int)) (p1.toInt) (j2_2.toInt)))
      refine lv_iload_n hx hb dX12_laysPrices_2 rfl (lv_at hl 2 rfl) ?_
      refine lv_aload_n hx hb dX12_laysPrices_3 rfl (lv_at hl 0 rfl) ?_
      refine th_call (th_runV (As := []) (rest := [.int j2_2]) hC mf_X12_many km_X12_115 im_X12_many se_X12_many (c_X12_many l G Γ H2 hB.1 hU a0 h0) rfl rfl ⟨Nat.le_of_ble_eq_true rfl, Nat.le_of_ble_eq_true rfl⟩ hB.1 h0 ro_46 rfl rfl hl.1 rfl (Nat.le_of_ble_eq_true rfl) dX12_laysPrices_4 ⟨Nat.le_refl _, Nat.le_refl _⟩) hB.2.1 (fun v4 H4 locs hp hz hS => ?_)
      obtain ⟨x1, rfl, lx1, ux1, q4_0, q4_1, rfl⟩ := hp
      have hB := th_B_s hB hS
      replace hF := hF.trans (congrArg (dv_k f_X12_laysPrices_2b) (dv_bn2 (q4_1)))
      refine W.eq (g2 := F0 m 7 ls [.int x1, .int j2_2]) rfl ?_
      refine tr_icmp_ge (tgt := 88) hx hb dX12_laysPrices_7 (by decide) (Eq.refl _) (Eq.refl _) (fun c7 => ?_) (fun c7 => ?_)
      · replace hF := hF.trans (congrArg (dv_k f_X12_laysPrices_2b) (if_pos c7))
        replace hF := hF.trans (dv_kr)
        exact th_vret hC hH hr hlocks hB.2.1 ⟨rfl, hB.1, hB.2.2, hR, (hF0.symm.trans hF)⟩ dX12_laysPrices_88
      · replace hF := hF.trans (congrArg (dv_k f_X12_laysPrices_2b) (if_neg (Int.not_le.mpr c7)))
        refine lv_iconst (v := 0) hx hb dX12_laysPrices_10 (by decide) ?_
        refine lv_istore_n (lv' := [(3, .int 0), (0, .ref a0), (1, .int p1), (2, .int j2_2)]) hx hb dX12_laysPrices_11 rfl hl (by decide) rfl (fun ls hl => ?_)
        have lp12 : ∀ (n12 : Nat) (H12 : Heap) (locs : List Loc) (ls : Array Slot) (j12_3 : Int32), th_B G Γ Γ [(63, 0), (46, 22), (46, 24), (58, 0), (46, 23), (46, 25)] H0 H12 locs → th_RE a0 G Γ H12 → lv_has ls 6 [(0, .ref a0), (1, .int p1), (2, .int j2_2), (3, .int j12_3)] → F = dv_k f_X12_laysPrices_2b (dv_lp f_X12_laysPrices_12b (dv G Γ H12, (a0 : Int), p1.toInt, j2_2.toInt, j12_3.toInt)) → 0 ≤ j12_3.toInt → j12_3.toInt ≤ 144 → (2147483648 : Int) - j12_3.toInt ≤ (n12 : Int) → W p l e ({ frames := 52, cells := 0, slots := 0, locals := 1650 } : Room) s m ([.ref a0, .int p1] : List Value).toArray below meth c H12 locs 0 0 (MQ below (th_Q (fun (v : Option Value) (H1 : Heap) => v = none ∧ th_I G Γ H1 ∧ th_F G Γ [(63, 0), (46, 22), (46, 24), (58, 0), (46, 23), (46, 25)] H0 H1 ∧ th_RE a0 G Γ H1 ∧ (f_X12_laysPrices (dv G Γ H0) (a0 : Int) p1.toInt = (dv G Γ H1, 0))) G) ([.ref a0, .int p1] : List Value).toArray s 0 0 (fun q => G.2.2 ≤ q)) (F0 m 12 ls []) := by
          intro n12
          induction n12 with
          | zero => intro H12 locs ls j12_3 hB hR hl hF g12_0 g12_1 hm12; exact absurd hm12 (by have := ti_hi j12_3; omega)
          | succ n12 ih12 =>
            intro H12 locs ls j12_3 hB hR hl hF g12_0 g12_1 hm12
            have lj12_3 := ti_lo j12_3; have uj12_3 := ti_hi j12_3
            have hm12 : (2147483648 : Int) - j12_3.toInt ≤ (n12 : Int) + 1 := by omega
            replace hF := hF.trans (congrArg (dv_k f_X12_laysPrices_2b) (dv_lp_eq))
            replace hF := hF.trans (congrArg (dv_k f_X12_laysPrices_2b) (congrArg (dv_k f_X12_laysPrices_12b) (f_X12_laysPrices_12c.eq_1 (dv G Γ H12) ((a0 : Int)) (p1.toInt) (j2_2.toInt) (j12_3.toInt))))
            refine lv_iload_n hx hb dX12_laysPrices_12 rfl (lv_at hl 3 rfl) ?_
            refine lv_sipush (v := 144) hx hb dX12_laysPrices_13 (by decide) ?_
            have jn82 : ∀ (locs : List Loc) (ls : Array Slot) , th_B G Γ Γ [(63, 0), (46, 22), (46, 24), (58, 0), (46, 23), (46, 25)] H0 H12 locs → lv_has ls 6 [(0, .ref a0), (1, .int p1), (2, .int j2_2)] → F = dv_k f_X12_laysPrices_2b (dv_k f_X12_laysPrices_12b (f_X12_laysPrices_82 (dv G Γ H12) ((a0 : Int)) (p1.toInt) (j2_2.toInt))) → W p l e ({ frames := 52, cells := 0, slots := 0, locals := 1650 } : Room) s m ([.ref a0, .int p1] : List Value).toArray below meth c H12 locs 0 0 (MQ below (th_Q (fun (v : Option Value) (H1 : Heap) => v = none ∧ th_I G Γ H1 ∧ th_F G Γ [(63, 0), (46, 22), (46, 24), (58, 0), (46, 23), (46, 25)] H0 H1 ∧ th_RE a0 G Γ H1 ∧ (f_X12_laysPrices (dv G Γ H0) (a0 : Int) p1.toInt = (dv G Γ H1, 0))) G) ([.ref a0, .int p1] : List Value).toArray s 0 0 (fun q => G.2.2 ≤ q)) (F0 m 82 ls []) := by
              intro locs ls hB hl hF
              replace hF := hF.trans (congrArg (dv_k f_X12_laysPrices_2b) (congrArg (dv_k f_X12_laysPrices_12b) (f_X12_laysPrices_82.eq_1 (dv G Γ H12) ((a0 : Int)) (p1.toInt) (j2_2.toInt))))
              refine tr_iinc (fun x2 => [(2, .int x2), (0, .ref a0), (1, .int p1)]) hx hb dX12_laysPrices_82 hl (k := 2) rfl (Eq.refl _) tk_1 (by omega) (by omega) (by decide) (fun _ => rfl) (fun x2 ls ex2 hl => ?_)
              replace hF := hF.trans (congrArg (dv_k f_X12_laysPrices_2b) (congrArg (dv_k f_X12_laysPrices_12b) (dv_bn (ex2.symm))))
              refine lv_goto (tgt := 2) hx hb dX12_laysPrices_85 (by decide) ?_
              replace hF := hF.trans (congrArg (dv_k f_X12_laysPrices_2b) (dv_kr))
              replace hF := hF.trans (dv_kl)
              exact ih2 H12 locs ls x2 hB hR (lv_sub hl [1, 2, 0] rfl) hF (by omega) (by omega) (by omega)
            refine tr_icmp_ge (tgt := 82) hx hb dX12_laysPrices_16 (by decide) (Eq.refl _) tk_144 (fun c16 => ?_) (fun c16 => ?_)
            · replace hF := hF.trans (congrArg (dv_k f_X12_laysPrices_2b) (congrArg (dv_k f_X12_laysPrices_12b) (if_pos c16)))
              exact jn82 locs ls hB (lv_sub hl [0, 1, 2] rfl) hF
            · replace hF := hF.trans (congrArg (dv_k f_X12_laysPrices_2b) (congrArg (dv_k f_X12_laysPrices_12b) (if_neg (Int.not_le.mpr c16))))
              refine lv_iload_n hx hb dX12_laysPrices_19 rfl (lv_at hl 1 rfl) ?_
              refine lv_iload_n hx hb dX12_laysPrices_20 rfl (lv_at hl 2 rfl) ?_
              refine th_call (th_runS (As := [.int p1, .int j2_2]) (rest := []) hC mf_X12_isIn km_X12_348 st_X12_isIn (c_X12_isIn l G Γ H12 hB.1 hU p1 j2_2 (by omega) (by omega)) rfl rfl ⟨Nat.le_of_ble_eq_true rfl, Nat.le_of_ble_eq_true rfl⟩ rfl hl.1 rfl (Nat.le_of_ble_eq_true rfl) dX12_laysPrices_21 ⟨Nat.le_refl _, Nat.le_refl _⟩) hB.2.1 (fun v21 H21 locs hp hz hS => ?_)
              obtain ⟨x3, rfl, lx3, ux3, q21_0, q21_1, rfl⟩ := hp
              have hB := th_B_s hB hS
              replace hF := hF.trans (congrArg (dv_k f_X12_laysPrices_2b) (congrArg (dv_k f_X12_laysPrices_12b) (dv_bn2 (q21_1))))
              refine W.eq (g2 := F0 m 24 ls [.int x3]) rfl ?_
              refine tr_if_eq (tgt := 82) hx hb dX12_laysPrices_24 (by decide) (Eq.refl _) (fun c24 => ?_) (fun c24 => ?_)
              · replace hF := hF.trans (congrArg (dv_k f_X12_laysPrices_2b) (congrArg (dv_k f_X12_laysPrices_12b) (if_pos c24)))
                exact jn82 locs ls hB (lv_sub hl [0, 1, 2] rfl) hF
              · replace hF := hF.trans (congrArg (dv_k f_X12_laysPrices_2b) (congrArg (dv_k f_X12_laysPrices_12b) (if_neg c24)))
                refine lv_iload_n hx hb dX12_laysPrices_27 rfl (lv_at hl 3 rfl) ?_
                refine lv_bipush (v := 12) hx hb dX12_laysPrices_28 (by decide) ?_
                refine tr_irem hx hb dX12_laysPrices_30 (Eq.refl _) tk_12 (by omega) (by omega) (fun x4 ex4 => ?_)
                replace hF := hF.trans (congrArg (dv_k f_X12_laysPrices_2b) (congrArg (dv_k f_X12_laysPrices_12b) (dv_bn (ex4.symm))))
                refine lv_istore (lv' := [(4, .int x4), (0, .ref a0), (1, .int p1), (2, .int j2_2), (3, .int j12_3)]) hx hb dX12_laysPrices_31 hl (by decide) rfl (fun ls hl => ?_)
                refine lv_iload_n hx hb dX12_laysPrices_33 rfl (lv_at hl 4 rfl) ?_
                refine lv_bipush (v := 12) hx hb dX12_laysPrices_34 (by decide) ?_
                refine tr_idiv hx hb dX12_laysPrices_36 (Eq.refl _) tk_12 (by omega) (by omega) (fun x5 ex5 => ?_)
                replace hF := hF.trans (congrArg (dv_k f_X12_laysPrices_2b) (congrArg (dv_k f_X12_laysPrices_12b) (dv_bn (ex5.symm))))
                refine lv_istore (lv' := [(5, .int x5), (4, .int x4), (0, .ref a0), (1, .int p1), (2, .int j2_2), (3, .int j12_3)]) hx hb dX12_laysPrices_37 hl (by decide) rfl (fun ls hl => ?_)
                refine lv_aload_n hx hb dX12_laysPrices_39 rfl (lv_at hl 2 rfl) ?_
                refine th_getO (j := 34) (r2 := 63) hC cf_X12 hB.1 h0 ro_46 rfl rfl kf_X12_78 dX12_laysPrices_40 (fun b6 mb6 hb6 => ?_)
                have sb6 := (th_F_o hB.2.2 h0 ro_46 (j := 34) (by decide) (by decide)).symm.trans mb6
                refine lv_sipush (v := 144) hx hb dX12_laysPrices_43 (by decide) ?_
                refine lv_iload_n hx hb dX12_laysPrices_46 rfl (lv_at hl 4 rfl) ?_
                refine tr_imul hx hb dX12_laysPrices_47 tk_144 (Eq.refl _) (by omega) (by omega) (fun x7 ex7 => ?_)
                replace hF := hF.trans (congrArg (dv_k f_X12_laysPrices_2b) (congrArg (dv_k f_X12_laysPrices_12b) (dv_bn (ex7.symm))))
                refine lv_iload_n hx hb dX12_laysPrices_48 rfl (lv_at hl 5 rfl) ?_
                refine tr_iadd hx hb dX12_laysPrices_49 (Eq.refl _) (Eq.refl _) (by omega) (by omega) (fun x8 ex8 => ?_)
                replace hF := hF.trans (congrArg (dv_k f_X12_laysPrices_2b) (congrArg (dv_k f_X12_laysPrices_12b) (dv_bn (ex8.symm))))
                refine lv_aload_n hx hb dX12_laysPrices_50 rfl (lv_at hl 2 rfl) ?_
                refine lv_iload_n hx hb dX12_laysPrices_51 rfl (lv_at hl 4 rfl) ?_
                refine lv_iload hx hb dX12_laysPrices_52 (lv_at hl 1 rfl) ?_
                refine lv_iload hx hb dX12_laysPrices_54 (lv_at hl 0 rfl) ?_
                refine th_call (th_runV (As := [.int j2_2, .int x4, .int x5]) (rest := [.int x8, .ref b6]) hC mf_X12_isBarred km_X12_156 im_X12_isBarred se_X12_isBarred (c_X12_isBarred l G Γ H12 hB.1 hU a0 h0 hR j2_2 (by omega) (by omega) x4 x5) rfl rfl ⟨Nat.le_of_ble_eq_true rfl, Nat.le_of_ble_eq_true rfl⟩ hB.1 h0 ro_46 rfl rfl hl.1 rfl (Nat.le_of_ble_eq_true rfl) dX12_laysPrices_56 ⟨Nat.le_refl _, Nat.le_refl _⟩) hB.2.1 (fun v56 H56 locs hp hz hS => ?_)
                obtain ⟨x9, rfl, lx9, ux9, hI1, hf, hR, z56_0⟩ := hp
                have hB := th_B_c hB hI1 hS hf (by decide)
                have mm10 := (th_F_o hf h0 ro_46 (j := 34) (by decide) (by decide)).trans mb6
                replace hF := hF.trans (congrArg (dv_k f_X12_laysPrices_2b) (congrArg (dv_k f_X12_laysPrices_12b) (dv_bn2 (z56_0))))
                refine W.eq (g2 := F0 m 59 ls [.int x9, .int x8, .ref b6]) rfl ?_
                refine tr_if_eq (tgt := 66) hx hb dX12_laysPrices_59 (by decide) (Eq.refl _) (fun c59 => ?_) (fun c59 => ?_)
                · replace hF := hF.trans (congrArg (dv_k f_X12_laysPrices_2b) (congrArg (dv_k f_X12_laysPrices_12b) (if_pos c59)))
                  refine lv_aload_n hx hb dX12_laysPrices_66 rfl (lv_at hl 2 rfl) ?_
                  refine lv_iload_n hx hb dX12_laysPrices_67 rfl (lv_at hl 4 rfl) ?_
                  refine lv_iload hx hb dX12_laysPrices_68 (lv_at hl 1 rfl) ?_
                  refine lv_iload hx hb dX12_laysPrices_70 (lv_at hl 0 rfl) ?_
                  refine th_call (th_runV (As := [.int j2_2, .int x4, .int x5]) (rest := [.int x8, .ref b6]) hC mf_X12_costsAt km_X12_152 im_X12_costsAt se_X12_costsAt (c_X12_costsAt l G Γ H56 hB.1 hU a0 h0 hR j2_2 (by omega) (by omega) x4 x5) rfl rfl ⟨Nat.le_of_ble_eq_true rfl, Nat.le_of_ble_eq_true rfl⟩ hB.1 h0 ro_46 rfl rfl hl.1 rfl (Nat.le_of_ble_eq_true rfl) dX12_laysPrices_72 ⟨Nat.le_refl _, Nat.le_refl _⟩) hB.2.1 (fun v72 H72 locs hp hz hS => ?_)
                  obtain ⟨x11, rfl, lx11, ux11, hI1, hf, hR, z72_0⟩ := hp
                  have hB := th_B_c hB hI1 hS hf (by decide)
                  have mm12 := (th_F_o hf h0 ro_46 (j := 34) (by decide) (by decide)).trans mm10
                  replace hF := hF.trans (congrArg (dv_k f_X12_laysPrices_2b) (congrArg (dv_k f_X12_laysPrices_12b) (dv_bn2 (z72_0))))
                  refine W.eq (g2 := F0 m 75 ls [.int x11, .int x8, .ref b6]) rfl ?_
                  have hIo := hB.1
                  refine th_iastF hC hB hb6 (Or.inl hb6) ro_63 rfl (by decide) (Eq.refl _) (by omega) (by omega) th_sIa dX12_laysPrices_75 (fun H75 locs hB hf75 hst75 => ?_)
                  have hf := hf75
                  have mm13 := (th_F_o hf h0 ro_46 (j := 34) (by decide) (by decide)).trans mm12
                  have hR := th_RE_F hB.1 hR h0 hf (th_T_s hb6 ro_63 hst75) (by decide)
                  replace hF := hF.trans (congrArg (dv_k f_X12_laysPrices_2b) (congrArg (dv_k f_X12_laysPrices_12b) (dv_bn (dv_stoI hIo hB.1 hU hb6 ow_63 (i := x8.toInt) hst75 (Eq.refl _) (by omega)))))
                  refine tr_iinc (fun x14 => [(3, .int x14), (5, .int x5), (4, .int x4), (0, .ref a0), (1, .int p1), (2, .int j2_2)]) hx hb dX12_laysPrices_76 hl (k := 5) rfl (Eq.refl _) tk_1 (by omega) (by omega) (by decide) (fun _ => rfl) (fun x14 ls ex14 hl => ?_)
                  replace hF := hF.trans (congrArg (dv_k f_X12_laysPrices_2b) (congrArg (dv_k f_X12_laysPrices_12b) (dv_bn (ex14.symm))))
                  refine lv_goto (tgt := 12) hx hb dX12_laysPrices_79 (by decide) ?_
                  replace hF := hF.trans (congrArg (dv_k f_X12_laysPrices_2b) (dv_kl))
                  exact ih12 H75 locs ls x14 hB hR (lv_sub hl [3, 4, 5, 0] rfl) hF (by omega) (by omega) (by omega)
                · replace hF := hF.trans (congrArg (dv_k f_X12_laysPrices_2b) (congrArg (dv_k f_X12_laysPrices_12b) (if_neg c59)))
                  refine lv_iconst (v := (-1)) hx hb dX12_laysPrices_62 (by decide) ?_
                  refine lv_goto (tgt := 75) hx hb dX12_laysPrices_63 (by decide) ?_
                  have hIo := hB.1
                  refine th_iastF hC hB hb6 (Or.inl hb6) ro_63 rfl (by decide) (Eq.refl _) (by omega) (by omega) th_sIa dX12_laysPrices_75 (fun H75 locs hB hf75 hst75 => ?_)
                  have hf := hf75
                  have mm15 := (th_F_o hf h0 ro_46 (j := 34) (by decide) (by decide)).trans mm10
                  have hR := th_RE_F hB.1 hR h0 hf (th_T_s hb6 ro_63 hst75) (by decide)
                  replace hF := hF.trans (congrArg (dv_k f_X12_laysPrices_2b) (congrArg (dv_k f_X12_laysPrices_12b) (dv_bn (dv_stoI hIo hB.1 hU hb6 ow_63 (i := x8.toInt) hst75 tk_m1 (by omega)))))
                  refine tr_iinc (fun x16 => [(3, .int x16), (5, .int x5), (4, .int x4), (0, .ref a0), (1, .int p1), (2, .int j2_2)]) hx hb dX12_laysPrices_76 hl (k := 5) rfl (Eq.refl _) tk_1 (by omega) (by omega) (by decide) (fun _ => rfl) (fun x16 ls ex16 hl => ?_)
                  replace hF := hF.trans (congrArg (dv_k f_X12_laysPrices_2b) (congrArg (dv_k f_X12_laysPrices_12b) (dv_bn (ex16.symm))))
                  refine lv_goto (tgt := 12) hx hb dX12_laysPrices_79 (by decide) ?_
                  replace hF := hF.trans (congrArg (dv_k f_X12_laysPrices_2b) (dv_kl))
                  exact ih12 H75 locs ls x16 hB hR (lv_sub hl [3, 4, 5, 0] rfl) hF (by omega) (by omega) (by omega)
        exact lp12 ((2147483648 : Int) - (0)).toNat H2 locs ls 0 hB hR (lv_sub hl [1, 2, 3, 0] rfl) (by rw [tk_0]; exact hF) (by decide) (by decide) (by have w0 := tk_0; omega)
  exact lp2 ((2147483648 : Int) - (0)).toNat H0 [] ls 0 hB hR (lv_sub hl [1, 2, 0] rfl) (by rw [tk_0]; exact hF) (by decide) (by decide) (by have w0 := tk_0; omega)

set_option maxHeartbeats 4000000 in
set_option maxRecDepth 100000 in
theorem c_X12_countsRow (l : Launch) (G : th_G) (Γ : th_Ga) (H0 : Heap) (hI : th_I G Γ H0) (hR : th_RC G Γ H0) (hU : dv_U Γ) (a0 : Nat) (h0 : Γ a0 = (46, 0)) (p1 : Int32) (f1 : 0 ≤ p1.toInt) (g1 : p1.toInt ≤ 9) (k1 : mo_rw G H0 a0 p1.toInt) : Met l yX12_countsRow (.code yX12_countsRow cX12_countsRow 5 (none) :: th_tb) ({ frames := 0, cells := 0, slots := 0, locals := 0 } : Room) (th_P [.ref a0, .int p1] G H0) (th_Q (fun (v : Option Value) (H1 : Heap) => v = none ∧ th_I G Γ H1 ∧ th_F G Γ [(67, 0)] H0 H1 ∧ th_RC G Γ H1 ∧ (f_X12_countsRow (dv G Γ H0) (a0 : Int) p1.toInt = (dv G Γ H1, 0))) G) 0 0 (fun q => G.2.2 ≤ q) := by
  refine th_met RX12 (by decide) rfl (Nat.le_of_ble_eq_true rfl) ?_
  intro p e s m below meth c hC hH hr hlocks hnm ls hl
  have hx := hC.1
  have hb := hC.2.1
  have hB : th_B G Γ Γ [(67, 0)] H0 H0 [] := ⟨hI, va_S.rf, th_F_rf⟩
  have hl : lv_has ls 5 [(0, .ref a0), (1, .int p1)] := hl
  have lp1 := ti_lo p1; have up1 := ti_hi p1
  obtain ⟨F, hF0⟩ : ∃ F, F = f_X12_countsRow (dv G Γ H0) ((a0 : Int)) (p1.toInt) := ⟨_, rfl⟩
  have hF := hF0.trans (f_X12_countsRow.eq_1 (dv G Γ H0) ((a0 : Int)) (p1.toInt))
  refine lv_iconst (v := 0) hx hb dX12_countsRow_0 (by decide) ?_
  refine lv_istore_n (lv' := [(2, .int 0), (0, .ref a0), (1, .int p1)]) hx hb dX12_countsRow_1 rfl hl (by decide) rfl (fun ls hl => ?_)
  have lp2 : ∀ (n2 : Nat) (H2 : Heap) (locs : List Loc) (ls : Array Slot) (j2_2 : Int32), th_B G Γ Γ [(67, 0)] H0 H2 locs → th_RC G Γ H2 → lv_has ls 5 [(0, .ref a0), (1, .int p1), (2, .int j2_2)] → F = dv_lp f_X12_countsRow_2b (dv G Γ H2, (a0 : Int), p1.toInt, j2_2.toInt) → 0 ≤ j2_2.toInt → j2_2.toInt ≤ 9 → (2147483648 : Int) - j2_2.toInt ≤ (n2 : Int) → W p l e ({ frames := 0, cells := 0, slots := 0, locals := 0 } : Room) s m ([.ref a0, .int p1] : List Value).toArray below meth c H2 locs 0 0 (MQ below (th_Q (fun (v : Option Value) (H1 : Heap) => v = none ∧ th_I G Γ H1 ∧ th_F G Γ [(67, 0)] H0 H1 ∧ th_RC G Γ H1 ∧ (f_X12_countsRow (dv G Γ H0) (a0 : Int) p1.toInt = (dv G Γ H1, 0))) G) ([.ref a0, .int p1] : List Value).toArray s 0 0 (fun q => G.2.2 ≤ q)) (F0 m 2 ls []) := by
    intro n2
    induction n2 with
    | zero => intro H2 locs ls j2_2 hB hR hl hF g2_0 g2_1 hm2; exact absurd hm2 (by have := ti_hi j2_2; omega)
    | succ n2 ih2 =>
      intro H2 locs ls j2_2 hB hR hl hF g2_0 g2_1 hm2
      have lj2_2 := ti_lo j2_2; have uj2_2 := ti_hi j2_2
      have vw_H2_2 : mo_v G H2 a0 2 = mo_v G H0 a0 2 := mo_v_F (r := 48) hB.1 hB.2.2 h0 rfl ro_48 (by decide) (by decide)
      have vw_H2_35 : mo_v G H2 a0 35 = mo_v G H0 a0 35 := mo_v_F (r := 64) hB.1 hB.2.2 h0 rfl ro_64 (by decide) (by decide)
      have vw_H2_36 : mo_v G H2 a0 36 = mo_v G H0 a0 36 := mo_v_F (r := 65) hB.1 hB.2.2 h0 rfl ro_65 (by decide) (by decide)
      have hm2 : (2147483648 : Int) - j2_2.toInt ≤ (n2 : Int) + 1 := by omega
      replace hF := hF.trans (dv_lp_eq)
      replace hF := hF.trans (congrArg (dv_k f_X12_countsRow_2b) (f_X12_countsRow_2c.eq_1 (dv G Γ H2) ((a0 : Int)) (p1.toInt) (j2_2.toInt)))
      refine lv_iload_n hx hb dX12_countsRow_2 rfl (lv_at hl 2 rfl) ?_
      refine lv_iload_n hx hb dX12_countsRow_3 rfl (lv_at hl 1 rfl) ?_
      refine tr_icmp_ge (tgt := 83) hx hb dX12_countsRow_4 (by decide) (Eq.refl _) (Eq.refl _) (fun c4 => ?_) (fun c4 => ?_)
      · replace hF := hF.trans (congrArg (dv_k f_X12_countsRow_2b) (if_pos c4))
        replace hF := hF.trans (dv_kr)
        exact th_vret hC hH hr hlocks hB.2.1 ⟨rfl, hB.1, hB.2.2, hR, (hF0.symm.trans hF)⟩ dX12_countsRow_83
      · replace hF := hF.trans (congrArg (dv_k f_X12_countsRow_2b) (if_neg (Int.not_le.mpr c4)))
        refine lv_aload_n hx hb dX12_countsRow_7 rfl (lv_at hl 0 rfl) ?_
        refine th_getO (j := 2) (r2 := 48) hC cf_X12 hB.1 h0 ro_46 rfl rfl kf_X12_28 dX12_countsRow_8 (fun b1 mb1 hb1 => ?_)
        have sb1 := (th_F_o hB.2.2 h0 ro_46 (j := 2) (by decide) (by decide)).symm.trans mb1
        refine lv_bipush (v := 29) hx hb dX12_countsRow_11 (by decide) ?_
        refine lv_aload_n hx hb dX12_countsRow_13 rfl (lv_at hl 0 rfl) ?_
        refine th_getO (j := 35) (r2 := 64) hC cf_X12 hB.1 h0 ro_46 rfl rfl kf_X12_81 dX12_countsRow_14 (fun b2 mb2 hb2 => ?_)
        have sb2 := (th_F_o hB.2.2 h0 ro_46 (j := 35) (by decide) (by decide)).symm.trans mb2
        refine lv_iload_n hx hb dX12_countsRow_17 rfl (lv_at hl 2 rfl) ?_
        refine th_ialdF hC hB.1 hb2 ro_64 rfl (Eq.refl _) (by omega) (by omega) rfl dX12_countsRow_18 (fun x3 mx3 lx3 ux3 => ?_)
        replace hF := hF.trans (congrArg (dv_k f_X12_countsRow_2b) (dv_bn (dv_aldI hB.1 hU hb2 ow_64 (z := j2_2.toInt) mx3 (by omega))))
        have vgx3 : mo_v G H0 a0 35 j2_2.toInt = x3.toInt := by rw [← (mo_v_F (r := 64) hB.1 hB.2.2 h0 rfl ro_64 (by decide) (by decide) : mo_v G H2 a0 35 = _)]; rw [show (j2_2.toInt : Int) = j2_2.toInt by omega]; exact mo_vat mb2 mx3 (by omega)
        refine tr_iadd hx hb dX12_countsRow_19 tk_29 (Eq.refl _) (by omega) (by omega) (fun x4 ex4 => ?_)
        replace hF := hF.trans (congrArg (dv_k f_X12_countsRow_2b) (dv_bn (ex4.symm)))
        refine th_ialdF hC hB.1 hb1 ro_48 rfl (Eq.refl _) (by omega) (by omega) (ek_side (by omega) (by omega)) dX12_countsRow_20 (fun x5 mx5 lx5 ux5 => ?_)
        replace hF := hF.trans (congrArg (dv_k f_X12_countsRow_2b) (dv_bn (dv_aldI hB.1 hU hb1 ow_48 (z := x4.toInt) mx5 (by omega))))
        have vgx5 : mo_v G H0 a0 2 (29 + x3.toInt) = x5.toInt := by rw [← (mo_v_F (r := 48) hB.1 hB.2.2 h0 rfl ro_48 (by decide) (by decide) : mo_v G H2 a0 2 = _)]; rw [show ((29 + x3.toInt) : Int) = x4.toInt by omega]; exact mo_vat mb1 mx5 (by omega)
        refine lv_istore_n (lv' := [(3, .int x5), (0, .ref a0), (1, .int p1), (2, .int j2_2)]) hx hb dX12_countsRow_21 rfl hl (by decide) rfl (fun ls hl => ?_)
        refine lv_iconst (v := 0) hx hb dX12_countsRow_22 (by decide) ?_
        refine lv_istore (lv' := [(4, .int 0), (3, .int x5), (0, .ref a0), (1, .int p1), (2, .int j2_2)]) hx hb dX12_countsRow_23 hl (by decide) rfl (fun ls hl => ?_)
        have lp25 : ∀ (n25 : Nat) (H25 : Heap) (locs : List Loc) (ls : Array Slot) (j25_4 : Int32), th_B G Γ Γ [(67, 0)] H0 H25 locs → th_RC G Γ H25 → lv_has ls 5 [(3, .int x5), (0, .ref a0), (1, .int p1), (2, .int j2_2), (4, .int j25_4)] → F = dv_k f_X12_countsRow_2b (dv_lp f_X12_countsRow_25b (dv G Γ H25, x5.toInt, (a0 : Int), p1.toInt, j2_2.toInt, j25_4.toInt)) → 0 ≤ j25_4.toInt → j25_4.toInt ≤ 144 → (2147483648 : Int) - j25_4.toInt ≤ (n25 : Int) → W p l e ({ frames := 0, cells := 0, slots := 0, locals := 0 } : Room) s m ([.ref a0, .int p1] : List Value).toArray below meth c H25 locs 0 0 (MQ below (th_Q (fun (v : Option Value) (H1 : Heap) => v = none ∧ th_I G Γ H1 ∧ th_F G Γ [(67, 0)] H0 H1 ∧ th_RC G Γ H1 ∧ (f_X12_countsRow (dv G Γ H0) (a0 : Int) p1.toInt = (dv G Γ H1, 0))) G) ([.ref a0, .int p1] : List Value).toArray s 0 0 (fun q => G.2.2 ≤ q)) (F0 m 25 ls []) := by
          intro n25
          induction n25 with
          | zero => intro H25 locs ls j25_4 hB hR hl hF g25_0 g25_1 hm25; exact absurd hm25 (by have := ti_hi j25_4; omega)
          | succ n25 ih25 =>
            intro H25 locs ls j25_4 hB hR hl hF g25_0 g25_1 hm25
            have lj25_4 := ti_lo j25_4; have uj25_4 := ti_hi j25_4
            have mm6 := (th_F_o hB.2.2 h0 ro_46 (j := 2) (by decide) (by decide)).trans sb1
            have mm7 := (th_F_o hB.2.2 h0 ro_46 (j := 35) (by decide) (by decide)).trans sb2
            have vw_H25_2 : mo_v G H25 a0 2 = mo_v G H0 a0 2 := mo_v_F (r := 48) hB.1 hB.2.2 h0 rfl ro_48 (by decide) (by decide)
            have vw_H25_35 : mo_v G H25 a0 35 = mo_v G H0 a0 35 := mo_v_F (r := 64) hB.1 hB.2.2 h0 rfl ro_64 (by decide) (by decide)
            have vw_H25_36 : mo_v G H25 a0 36 = mo_v G H0 a0 36 := mo_v_F (r := 65) hB.1 hB.2.2 h0 rfl ro_65 (by decide) (by decide)
            have hm25 : (2147483648 : Int) - j25_4.toInt ≤ (n25 : Int) + 1 := by omega
            replace hF := hF.trans (congrArg (dv_k f_X12_countsRow_2b) (dv_lp_eq))
            replace hF := hF.trans (congrArg (dv_k f_X12_countsRow_2b) (congrArg (dv_k f_X12_countsRow_25b) (f_X12_countsRow_25c.eq_1 (dv G Γ H25) (x5.toInt) ((a0 : Int)) (p1.toInt) (j2_2.toInt) (j25_4.toInt))))
            refine lv_iload hx hb dX12_countsRow_25 (lv_at hl 4 rfl) ?_
            refine lv_iload_n hx hb dX12_countsRow_27 rfl (lv_at hl 0 rfl) ?_
            refine lv_iload_n hx hb dX12_countsRow_28 rfl (lv_at hl 0 rfl) ?_
            have q9 := ti_mulr (a := x5.toInt) (b := x5.toInt) (A := 12) (B := 12) (by omega) (by omega) (by omega) (by omega)
            generalize hex8 : x5.toInt * x5.toInt = wx8 at q9
            refine tr_imul hx hb dX12_countsRow_29 (Eq.refl _) (Eq.refl _) (by rw [hex8]; omega) (by rw [hex8]; omega) (fun x8 ex8 => ?_)
            rw [hex8] at ex8
            replace hF := hF.trans (congrArg (dv_k f_X12_countsRow_2b) (congrArg (dv_k f_X12_countsRow_25b) (dv_bn (hex8.trans ex8.symm))))
            refine tr_icmp_ge (tgt := 77) hx hb dX12_countsRow_30 (by decide) (Eq.refl _) (Eq.refl _) (fun c30 => ?_) (fun c30 => ?_)
            · replace hF := hF.trans (congrArg (dv_k f_X12_countsRow_2b) (congrArg (dv_k f_X12_countsRow_25b) (if_pos c30)))
              refine tr_iinc (fun x10 => [(2, .int x10), (3, .int x5), (0, .ref a0), (1, .int p1), (4, .int j25_4)]) hx hb dX12_countsRow_77 hl (k := 3) rfl (Eq.refl _) tk_1 (by omega) (by omega) (by decide) (fun _ => rfl) (fun x10 ls ex10 hl => ?_)
              replace hF := hF.trans (congrArg (dv_k f_X12_countsRow_2b) (congrArg (dv_k f_X12_countsRow_25b) (dv_bn (ex10.symm))))
              refine lv_goto (tgt := 2) hx hb dX12_countsRow_80 (by decide) ?_
              replace hF := hF.trans (congrArg (dv_k f_X12_countsRow_2b) (dv_kr))
              replace hF := hF.trans (dv_kl)
              exact ih2 H25 locs ls x10 hB hR (lv_sub hl [2, 3, 0] rfl) hF (by omega) (by omega) (by omega)
            · replace hF := hF.trans (congrArg (dv_k f_X12_countsRow_2b) (congrArg (dv_k f_X12_countsRow_25b) (if_neg (Int.not_le.mpr c30))))
              refine lv_aload_n hx hb dX12_countsRow_33 rfl (lv_at hl 1 rfl) ?_
              have f33 : 1 ≤ x5.toInt := by
                rcases Int.lt_or_le 0 x5.toInt with h9 | h9
                · omega
                · have h8 : x5.toInt = 0 := by omega
                  rw [h8, Int.zero_mul] at hex8
                  omega
              refine th_getO (j := 38) (r2 := 67) hC cf_X12 hB.1 h0 ro_46 rfl rfl kf_X12_90 dX12_countsRow_34 (fun b11 mb11 hb11 => ?_)
              have sb11 := (th_F_o hB.2.2 h0 ro_46 (j := 38) (by decide) (by decide)).symm.trans mb11
              refine lv_bipush (v := 9) hx hb dX12_countsRow_37 (by decide) ?_
              refine lv_aload_n hx hb dX12_countsRow_39 rfl (lv_at hl 1 rfl) ?_
              refine th_getO (j := 36) (r2 := 65) hC cf_X12 hB.1 h0 ro_46 rfl rfl kf_X12_84 dX12_countsRow_40 (fun b12 mb12 hb12 => ?_)
              have sb12 := (th_F_o hB.2.2 h0 ro_46 (j := 36) (by decide) (by decide)).symm.trans mb12
              refine lv_iload_n hx hb dX12_countsRow_43 rfl (lv_at hl 3 rfl) ?_
              refine th_ialdF hC hB.1 hb12 ro_65 rfl (Eq.refl _) (by omega) (by omega) rfl dX12_countsRow_44 (fun x13 mx13 lx13 ux13 => ?_)
              replace hF := hF.trans (congrArg (dv_k f_X12_countsRow_2b) (congrArg (dv_k f_X12_countsRow_25b) (dv_bn (dv_aldI hB.1 hU hb12 ow_65 (z := j2_2.toInt) mx13 (by omega)))))
              have vgx13 : mo_v G H0 a0 36 j2_2.toInt = x13.toInt := by rw [← (mo_v_F (r := 65) hB.1 hB.2.2 h0 rfl ro_65 (by decide) (by decide) : mo_v G H25 a0 36 = _)]; rw [show (j2_2.toInt : Int) = j2_2.toInt by omega]; exact mo_vat mb12 mx13 (by omega)
              have fx := k1 j2_2.toInt (by omega) (by omega)
              rw [vgx13, vgx3, vgx5] at fx
              refine lv_iload hx hb dX12_countsRow_45 (lv_at hl 4 rfl) ?_
              refine lv_iload_n hx hb dX12_countsRow_47 rfl (lv_at hl 0 rfl) ?_
              refine tr_idiv hx hb dX12_countsRow_48 (Eq.refl _) (Eq.refl _) (by omega) (by omega) (fun x14 ex14 => ?_)
              have fx14 := ti_divb (a := j25_4.toInt) (b := x5.toInt) (by omega) (by omega)
              rw [← ex14] at fx14
              replace hF := hF.trans (congrArg (dv_k f_X12_countsRow_2b) (congrArg (dv_k f_X12_countsRow_25b) (dv_bn (ex14.symm))))
              have f48 : x14.toInt < x5.toInt := by rw [ex14]; exact mo_dl (by omega) (by omega)
              refine lv_bipush (v := 12) hx hb dX12_countsRow_49 (by decide) ?_
              refine tr_imul hx hb dX12_countsRow_51 (Eq.refl _) tk_12 (by omega) (by omega) (fun x15 ex15 => ?_)
              replace hF := hF.trans (congrArg (dv_k f_X12_countsRow_2b) (congrArg (dv_k f_X12_countsRow_25b) (dv_bn (ex15.symm))))
              refine tr_iadd hx hb dX12_countsRow_52 (Eq.refl _) (Eq.refl _) (by omega) (by omega) (fun x16 ex16 => ?_)
              replace hF := hF.trans (congrArg (dv_k f_X12_countsRow_2b) (congrArg (dv_k f_X12_countsRow_25b) (dv_bn (ex16.symm))))
              refine lv_iload hx hb dX12_countsRow_53 (lv_at hl 4 rfl) ?_
              refine lv_iload_n hx hb dX12_countsRow_55 rfl (lv_at hl 0 rfl) ?_
              refine tr_irem hx hb dX12_countsRow_56 (Eq.refl _) (Eq.refl _) (by omega) (by omega) (fun x17 ex17 => ?_)
              have fx17 := ti_remb (a := j25_4.toInt) (b := x5.toInt) (by omega) (by omega)
              rw [← ex17] at fx17
              replace hF := hF.trans (congrArg (dv_k f_X12_countsRow_2b) (congrArg (dv_k f_X12_countsRow_25b) (dv_bn (ex17.symm))))
              refine tr_iadd hx hb dX12_countsRow_57 (Eq.refl _) (Eq.refl _) (by omega) (by omega) (fun x18 ex18 => ?_)
              replace hF := hF.trans (congrArg (dv_k f_X12_countsRow_2b) (congrArg (dv_k f_X12_countsRow_25b) (dv_bn (ex18.symm))))
              refine tr_imul hx hb dX12_countsRow_58 tk_9 (Eq.refl _) (by omega) (by omega) (fun x19 ex19 => ?_)
              replace hF := hF.trans (congrArg (dv_k f_X12_countsRow_2b) (congrArg (dv_k f_X12_countsRow_25b) (dv_bn (ex19.symm))))
              refine lv_aload_n hx hb dX12_countsRow_59 rfl (lv_at hl 1 rfl) ?_
              refine th_getK hC cf_X12 hB.1 h0 ro_46 rfl (j := 35) (by decide) mm7 kf_X12_81 dX12_countsRow_60 ?_
              refine lv_iload_n hx hb dX12_countsRow_63 rfl (lv_at hl 3 rfl) ?_
              refine th_ialdF hC hB.1 hb2 ro_64 rfl (Eq.refl _) (by omega) (by omega) rfl dX12_countsRow_64 (fun x20 mx20 lx20 ux20 => ?_)
              replace hF := hF.trans (congrArg (dv_k f_X12_countsRow_2b) (congrArg (dv_k f_X12_countsRow_25b) (dv_bn (dv_aldI hB.1 hU hb2 ow_64 (z := j2_2.toInt) mx20 (by omega)))))
              have vgx20 : mo_v G H0 a0 35 j2_2.toInt = x20.toInt := by rw [← (mo_v_F (r := 64) hB.1 hB.2.2 h0 rfl ro_64 (by decide) (by decide) : mo_v G H25 a0 35 = _)]; rw [show (j2_2.toInt : Int) = j2_2.toInt by omega]; exact mo_vat mm7 mx20 (by omega)
              refine tr_iadd hx hb dX12_countsRow_65 (Eq.refl _) (Eq.refl _) (by omega) (by omega) (fun x21 ex21 => ?_)
              replace hF := hF.trans (congrArg (dv_k f_X12_countsRow_2b) (congrArg (dv_k f_X12_countsRow_25b) (dv_bn (ex21.symm))))
              refine lv_dup2_11 hx hb dX12_countsRow_66 rfl rfl ?_
              refine th_ialdF hC hB.1 hb11 ro_67 rfl (Eq.refl _) (by omega) (by omega) rfl dX12_countsRow_67 (fun x22 mx22 lx22 ux22 => ?_)
              replace hF := hF.trans (congrArg (dv_k f_X12_countsRow_2b) (congrArg (dv_k f_X12_countsRow_25b) (dv_bn (dv_aldI hB.1 hU hb11 ow_67 (z := x21.toInt) mx22 (by omega)))))
              refine lv_iconst (v := 1) hx hb dX12_countsRow_68 (by decide) ?_
              refine lv_iadd hx hb dX12_countsRow_69 ?_
              refine lv_topi (fun x23 ex23 => ?_)
              have lx23 := ti_lo x23; have ux23 := ti_hi x23
              replace hF := hF.trans (congrArg (dv_k f_X12_countsRow_2b) (congrArg (dv_k f_X12_countsRow_25b) (dv_bn (dv_add_e (Eq.refl _) tk_1 ex23))))
              have hIo := hB.1
              refine th_iastF hC hB hb11 (Or.inl hb11) ro_67 rfl (by decide) (Eq.refl _) (by omega) (by omega) th_sIa dX12_countsRow_70 (fun H70 locs hB hf70 hst70 => ?_)
              have hf := hf70
              have mm24 := (th_F_o hf h0 ro_46 (j := 2) (by decide) (by decide)).trans mm6
              have mm25 := (th_F_o hf h0 ro_46 (j := 35) (by decide) (by decide)).trans mm7
              have mm26 := (th_F_o hf h0 ro_46 (j := 38) (by decide) (by decide)).trans mb11
              have mm27 := (th_F_o hf h0 ro_46 (j := 36) (by decide) (by decide)).trans mb12
              have hR := th_RC_F hB.1 hR hf (th_T_s hb11 ro_67 hst70) (by decide)
              have vv_H70_2 : mo_v G H70 a0 2 = mo_v G H25 a0 2 := mo_v_F (r := 48) hB.1 hf h0 rfl ro_48 (by decide) (by decide)
              have vv_H70_35 : mo_v G H70 a0 35 = mo_v G H25 a0 35 := mo_v_F (r := 64) hB.1 hf h0 rfl ro_64 (by decide) (by decide)
              have vv_H70_36 : mo_v G H70 a0 36 = mo_v G H25 a0 36 := mo_v_F (r := 65) hB.1 hf h0 rfl ro_65 (by decide) (by decide)
              replace hF := hF.trans (congrArg (dv_k f_X12_countsRow_2b) (congrArg (dv_k f_X12_countsRow_25b) (dv_bn (dv_stoI hIo hB.1 hU hb11 ow_67 (i := x21.toInt) hst70 (Eq.refl _) (by omega)))))
              refine tr_iinc (fun x28 => [(4, .int x28), (3, .int x5), (0, .ref a0), (1, .int p1), (2, .int j2_2)]) hx hb dX12_countsRow_71 hl (k := 4) rfl (Eq.refl _) tk_1 (by omega) (by omega) (by decide) (fun _ => rfl) (fun x28 ls ex28 hl => ?_)
              replace hF := hF.trans (congrArg (dv_k f_X12_countsRow_2b) (congrArg (dv_k f_X12_countsRow_25b) (dv_bn (ex28.symm))))
              refine lv_goto (tgt := 25) hx hb dX12_countsRow_74 (by decide) ?_
              replace hF := hF.trans (congrArg (dv_k f_X12_countsRow_2b) (dv_kl))
              exact ih25 H70 locs ls x28 hB hR (lv_sub hl [1, 2, 3, 4, 0] rfl) hF (by omega) (by omega) (by omega)
        exact lp25 ((2147483648 : Int) - (0)).toNat H2 locs ls 0 hB hR (lv_sub hl [1, 2, 3, 4, 0] rfl) (by rw [tk_0]; exact hF) (by decide) (by decide) (by have w0 := tk_0; omega)
  exact lp2 ((2147483648 : Int) - (0)).toNat H0 [] ls 0 hB hR (lv_sub hl [1, 2, 0] rfl) (by rw [tk_0]; exact hF) (by decide) (by decide) (by have w0 := tk_0; omega)

set_option maxHeartbeats 4000000 in
set_option maxRecDepth 100000 in
theorem c_X12_fills (l : Launch) (G : th_G) (Γ : th_Ga) (H0 : Heap) (hI : th_I G Γ H0) (hR : th_RC G Γ H0) (hU : dv_U Γ) (a0 : Nat) (h0 : Γ a0 = (46, 0)) (p1 : Int32) (f1 : 0 ≤ p1.toInt) (g1 : p1.toInt ≤ 9) (p2 : Int32) (k1 : mo_rw G H0 a0 p1.toInt) : Met l yX12_fills (.code yX12_fills cX12_fills 4 (none) :: th_tb) ({ frames := 5, cells := 0, slots := 0, locals := 120 } : Room) (th_P [.ref a0, .int p1, .int p2] G H0) (th_Q (fun (v : Option Value) (H1 : Heap) => v = none ∧ th_I G Γ H1 ∧ th_F G Γ [(46, 41), (46, 42), (46, 43), (67, 0), (66, 0)] H0 H1 ∧ th_RC G Γ H1 ∧ (f_X12_fills (dv G Γ H0) (a0 : Int) p1.toInt p2.toInt = (dv G Γ H1, 0))) G) 0 0 (fun q => G.2.2 ≤ q) := by
  refine th_met RX12 (by decide) rfl (Nat.le_of_ble_eq_true rfl) ?_
  intro p e s m below meth c hC hH hr hlocks hnm ls hl
  have hx := hC.1
  have hb := hC.2.1
  have hB : th_B G Γ Γ [(46, 41), (46, 42), (46, 43), (67, 0), (66, 0)] H0 H0 [] := ⟨hI, va_S.rf, th_F_rf⟩
  have hl : lv_has ls 4 [(0, .ref a0), (1, .int p1), (2, .int p2)] := hl
  have lp1 := ti_lo p1; have up1 := ti_hi p1
  have lp2 := ti_lo p2; have up2 := ti_hi p2
  obtain ⟨F, hF0⟩ : ∃ F, F = f_X12_fills (dv G Γ H0) ((a0 : Int)) (p1.toInt) (p2.toInt) := ⟨_, rfl⟩
  have hF := hF0.trans (f_X12_fills.eq_1 (dv G Γ H0) ((a0 : Int)) (p1.toInt) (p2.toInt))
  refine lv_aload_n hx hb dX12_fills_0 rfl (lv_at hl 0 rfl) ?_
  refine th_getI (j := 44) hC cf_X12 hB.1 h0 ro_46 rfl rfl kf_X12_400 dX12_fills_1 (fun x1 mx1 lx1 ux1 => ?_)
  replace hF := hF.trans (dv_bn (dv_getI h0 ro_46 (j := 44) rfl mx1 (by decide)))
  have jn16 : ∀ (locs : List Loc) (ls : Array Slot) , th_B G Γ Γ [(46, 41), (46, 42), (46, 43), (67, 0), (66, 0)] H0 H0 locs → lv_has ls 4 [(0, .ref a0), (1, .int p1), (2, .int p2)] → F = f_X12_fills_16 (dv G Γ H0) ((a0 : Int)) (p1.toInt) (p2.toInt) → W p l e ({ frames := 5, cells := 0, slots := 0, locals := 120 } : Room) s m ([.ref a0, .int p1, .int p2] : List Value).toArray below meth c H0 locs 0 0 (MQ below (th_Q (fun (v : Option Value) (H1 : Heap) => v = none ∧ th_I G Γ H1 ∧ th_F G Γ [(46, 41), (46, 42), (46, 43), (67, 0), (66, 0)] H0 H1 ∧ th_RC G Γ H1 ∧ (f_X12_fills (dv G Γ H0) (a0 : Int) p1.toInt p2.toInt = (dv G Γ H1, 0))) G) ([.ref a0, .int p1, .int p2] : List Value).toArray s 0 0 (fun q => G.2.2 ≤ q)) (F0 m 16 ls []) := by
    intro locs ls hB hl hF
    replace hF := hF.trans (f_X12_fills_16.eq_1 (dv G Γ H0) ((a0 : Int)) (p1.toInt) (p2.toInt))
    refine lv_aload_n hx hb dX12_fills_16 rfl (lv_at hl 0 rfl) ?_
    refine lv_dup hx hb dX12_fills_17 rfl ?_
    refine th_getI (j := 41) hC cf_X12 hB.1 h0 ro_46 rfl rfl kf_X12_406 dX12_fills_18 (fun x2 mx2 lx2 ux2 => ?_)
    replace hF := hF.trans (dv_bn (dv_getI h0 ro_46 (j := 41) rfl mx2 (by decide)))
    refine lv_iconst (v := 1) hx hb dX12_fills_21 (by decide) ?_
    refine lv_iadd hx hb dX12_fills_22 ?_
    refine lv_topi (fun x3 ex3 => ?_)
    have lx3 := ti_lo x3; have ux3 := ti_hi x3
    replace hF := hF.trans (dv_bn (dv_add_e (Eq.refl _) tk_1 ex3))
    refine th_put hC cf_X12 hB h0 (Or.inl h0) ro_46 rfl (j := 41) rfl th_sIa (by decide) rfl rfl rfl kf_X12_406 dX12_fills_23 (fun H23 locs hB hf hst23 => ?_)
    have mm4 := (th_F_o hf h0 ro_46 (j := 44) (by decide) (by decide)).trans mx1
    have hR := th_RC_F hB.1 hR hf (th_T_s h0 ro_46 hst23) (by decide)
    replace hF := hF.trans (dv_bn (dv_putI hB.1 h0 ro_46 (j := 41) rfl (th_apart hC cf_X12) hst23 (Eq.refl _) (by decide)))
    have mm5 := hst23.2.1
    refine lv_aload_n hx hb dX12_fills_26 rfl (lv_at hl 0 rfl) ?_
    refine lv_aload_n hx hb dX12_fills_27 rfl (lv_at hl 0 rfl) ?_
    refine th_getI (j := 43) hC cf_X12 hB.1 h0 ro_46 rfl rfl kf_X12_409 dX12_fills_28 (fun x6 mx6 lx6 ux6 => ?_)
    replace hF := hF.trans (dv_bn (dv_getI h0 ro_46 (j := 43) rfl mx6 (by decide)))
    refine lv_iload_n hx hb dX12_fills_31 rfl (lv_at hl 2 rfl) ?_
    refine th_call (th_runS (As := [.int x6, .int p2]) (rest := [.ref a0]) hC mf_X12_lesser km_X12_364 st_X12_lesser (c_X12_lesser l G Γ H23 hB.1 hU x6 p2) rfl rfl ⟨Nat.le_of_ble_eq_true rfl, Nat.le_of_ble_eq_true rfl⟩ rfl hl.1 rfl (Nat.le_of_ble_eq_true rfl) dX12_fills_32 ⟨Nat.le_refl _, Nat.le_refl _⟩) hB.2.1 (fun v32 H32 locs hp hz hS => ?_)
    obtain ⟨x7, rfl, q32_0, q32_1, rfl⟩ := hp
    have hB := th_B_s hB hS
    replace hF := hF.trans (dv_bn2 (q32_1))
    refine W.eq (g2 := F0 m 35 ls [.int x7, .ref a0]) rfl ?_
    refine th_put hC cf_X12 hB h0 (Or.inl h0) ro_46 rfl (j := 43) rfl th_sIa (by decide) rfl rfl rfl kf_X12_409 dX12_fills_35 (fun H35 locs hB hf hst35 => ?_)
    have mm8 := (th_F_o hf h0 ro_46 (j := 44) (by decide) (by decide)).trans mm4
    have mm9 := (th_F_o hf h0 ro_46 (j := 41) (by decide) (by decide)).trans mm5
    have hR := th_RC_F hB.1 hR hf (th_T_s h0 ro_46 hst35) (by decide)
    replace hF := hF.trans (dv_bn (dv_putI hB.1 h0 ro_46 (j := 43) rfl (th_apart hC cf_X12) hst35 (Eq.refl _) (by decide)))
    refine lv_aload_n hx hb dX12_fills_38 rfl (lv_at hl 0 rfl) ?_
    refine th_getK hC cf_X12 hB.1 h0 ro_46 rfl (j := 44) (by decide) mm8 kf_X12_400 dX12_fills_39 ?_
    replace hF := hF.trans (dv_bn (dv_getI h0 ro_46 (j := 44) rfl mm8 (by decide)))
    have jn50 : ∀ (H50 : Heap) (locs : List Loc) (ls : Array Slot) , th_B G Γ Γ [(46, 41), (46, 42), (46, 43), (67, 0), (66, 0)] H0 H50 locs → th_RC G Γ H50 → lv_has ls 4 [(0, .ref a0), (1, .int p1)] → F = f_X12_fills_50 (dv G Γ H50) ((a0 : Int)) (p1.toInt) → th_sl H50 a0 (G.1.2 12 41) = .int x3 → W p l e ({ frames := 5, cells := 0, slots := 0, locals := 120 } : Room) s m ([.ref a0, .int p1, .int p2] : List Value).toArray below meth c H50 locs 0 0 (MQ below (th_Q (fun (v : Option Value) (H1 : Heap) => v = none ∧ th_I G Γ H1 ∧ th_F G Γ [(46, 41), (46, 42), (46, 43), (67, 0), (66, 0)] H0 H1 ∧ th_RC G Γ H1 ∧ (f_X12_fills (dv G Γ H0) (a0 : Int) p1.toInt p2.toInt = (dv G Γ H1, 0))) G) ([.ref a0, .int p1, .int p2] : List Value).toArray s 0 0 (fun q => G.2.2 ≤ q)) (F0 m 50 ls []) := by
      intro H50 locs ls hB hR hl hF g50_0
      replace hF := hF.trans (f_X12_fills_50.eq_1 (dv G Γ H50) ((a0 : Int)) (p1.toInt))
      refine lv_aload_n hx hb dX12_fills_50 rfl (lv_at hl 0 rfl) ?_
      refine th_getK hC cf_X12 hB.1 h0 ro_46 rfl (j := 41) (by decide) g50_0 kf_X12_406 dX12_fills_51 ?_
      replace hF := hF.trans (dv_bn (dv_getI h0 ro_46 (j := 41) rfl g50_0 (by decide)))
      refine lv_iconst (v := 1) hx hb dX12_fills_54 (by decide) ?_
      refine tr_icmp_le (tgt := 59) hx hb dX12_fills_55 (by decide) (Eq.refl _) tk_1 (fun c55 => ?_) (fun c55 => ?_)
      · replace hF := hF.trans (if_pos c55)
        refine lv_aload_n hx hb dX12_fills_59 rfl (lv_at hl 0 rfl) ?_
        refine lv_iload_n hx hb dX12_fills_60 rfl (lv_at hl 1 rfl) ?_
        refine th_put hC cf_X12 hB h0 (Or.inl h0) ro_46 rfl (j := 42) rfl (th_sI (by omega) (by omega)) (by decide) rfl rfl rfl kf_X12_415 dX12_fills_61 (fun H61 locs hB hf hst61 => ?_)
        have mm10 := (th_F_o hf h0 ro_46 (j := 41) (by decide) (by decide)).trans g50_0
        have hR := th_RC_F hB.1 hR hf (th_T_s h0 ro_46 hst61) (by decide)
        replace hF := hF.trans (dv_bn (dv_putI hB.1 h0 ro_46 (j := 42) rfl (th_apart hC cf_X12) hst61 (Eq.refl _) (by decide)))
        refine lv_iconst (v := 0) hx hb dX12_fills_64 (by decide) ?_
        refine lv_istore_n (lv' := [(3, .int 0), (0, .ref a0), (1, .int p1)]) hx hb dX12_fills_65 rfl hl (by decide) rfl (fun ls hl => ?_)
        have lp66 : ∀ (n66 : Nat) (H66 : Heap) (locs : List Loc) (ls : Array Slot) (j66_3 : Int32), th_B G Γ Γ [(46, 41), (46, 42), (46, 43), (67, 0), (66, 0)] H0 H66 locs → th_RC G Γ H66 → lv_has ls 4 [(0, .ref a0), (1, .int p1), (3, .int j66_3)] → F = dv_lp f_X12_fills_66b (dv G Γ H66, (a0 : Int), p1.toInt, j66_3.toInt) → 0 ≤ j66_3.toInt → j66_3.toInt ≤ 9 → (2147483648 : Int) - j66_3.toInt ≤ (n66 : Int) → W p l e ({ frames := 5, cells := 0, slots := 0, locals := 120 } : Room) s m ([.ref a0, .int p1, .int p2] : List Value).toArray below meth c H66 locs 0 0 (MQ below (th_Q (fun (v : Option Value) (H1 : Heap) => v = none ∧ th_I G Γ H1 ∧ th_F G Γ [(46, 41), (46, 42), (46, 43), (67, 0), (66, 0)] H0 H1 ∧ th_RC G Γ H1 ∧ (f_X12_fills (dv G Γ H0) (a0 : Int) p1.toInt p2.toInt = (dv G Γ H1, 0))) G) ([.ref a0, .int p1, .int p2] : List Value).toArray s 0 0 (fun q => G.2.2 ≤ q)) (F0 m 66 ls []) := by
          intro n66
          induction n66 with
          | zero => intro H66 locs ls j66_3 hB hR hl hF g66_0 g66_1 hm66; exact absurd hm66 (by have := ti_hi j66_3; omega)
          | succ n66 ih66 =>
            intro H66 locs ls j66_3 hB hR hl hF g66_0 g66_1 hm66
            have lj66_3 := ti_lo j66_3; have uj66_3 := ti_hi j66_3
            have hm66 : (2147483648 : Int) - j66_3.toInt ≤ (n66 : Int) + 1 := by omega
            replace hF := hF.trans (dv_lp_eq)
            replace hF := hF.trans (congrArg (dv_k f_X12_fills_66b) (f_X12_fills_66c.eq_1 (dv G Γ H66) ((a0 : Int)) (p1.toInt) (j66_3.toInt)))
            refine lv_iload_n hx hb dX12_fills_66 rfl (lv_at hl 2 rfl) ?_
            refine lv_iload_n hx hb dX12_fills_67 rfl (lv_at hl 1 rfl) ?_
            refine tr_icmp_ge (tgt := 89) hx hb dX12_fills_68 (by decide) (Eq.refl _) (Eq.refl _) (fun c68 => ?_) (fun c68 => ?_)
            · replace hF := hF.trans (congrArg (dv_k f_X12_fills_66b) (if_pos c68))
              replace hF := hF.trans (dv_kr)
              exact th_vret hC hH hr hlocks hB.2.1 ⟨rfl, hB.1, hB.2.2, hR, (hF0.symm.trans hF)⟩ dX12_fills_89
            · replace hF := hF.trans (congrArg (dv_k f_X12_fills_66b) (if_neg (Int.not_le.mpr c68)))
              refine lv_aload_n hx hb dX12_fills_71 rfl (lv_at hl 0 rfl) ?_
              refine th_getO (j := 37) (r2 := 66) hC cf_X12 hB.1 h0 ro_46 rfl rfl kf_X12_87 dX12_fills_72 (fun b11 mb11 hb11 => ?_)
              have sb11 := (th_F_o hB.2.2 h0 ro_46 (j := 37) (by decide) (by decide)).symm.trans mb11
              refine lv_iload_n hx hb dX12_fills_75 rfl (lv_at hl 2 rfl) ?_
              refine lv_aload_n hx hb dX12_fills_76 rfl (lv_at hl 0 rfl) ?_
              refine th_getO (j := 35) (r2 := 64) hC cf_X12 hB.1 h0 ro_46 rfl rfl kf_X12_81 dX12_fills_77 (fun b12 mb12 hb12 => ?_)
              have sb12 := (th_F_o hB.2.2 h0 ro_46 (j := 35) (by decide) (by decide)).symm.trans mb12
              refine lv_iload_n hx hb dX12_fills_80 rfl (lv_at hl 2 rfl) ?_
              refine th_ialdF hC hB.1 hb12 ro_64 rfl (Eq.refl _) (by omega) (by omega) rfl dX12_fills_81 (fun x13 mx13 lx13 ux13 => ?_)
              replace hF := hF.trans (congrArg (dv_k f_X12_fills_66b) (dv_bn (dv_aldI hB.1 hU hb12 ow_64 (z := j66_3.toInt) mx13 (by omega))))
              have hIo := hB.1
              refine th_iastF hC hB hb11 (Or.inl hb11) ro_66 rfl (by decide) (Eq.refl _) (by omega) (by omega) th_sIa dX12_fills_82 (fun H82 locs hB hf82 hst82 => ?_)
              have hf := hf82
              have mm14 := (th_F_o hf h0 ro_46 (j := 37) (by decide) (by decide)).trans mb11
              have mm15 := (th_F_o hf h0 ro_46 (j := 35) (by decide) (by decide)).trans mb12
              have hR := th_RC_F hB.1 hR hf (th_T_s hb11 ro_66 hst82) (by decide)
              replace hF := hF.trans (congrArg (dv_k f_X12_fills_66b) (dv_bn (dv_stoI hIo hB.1 hU hb11 ow_66 (i := j66_3.toInt) hst82 (Eq.refl _) (by omega))))
              refine tr_iinc (fun x16 => [(3, .int x16), (0, .ref a0), (1, .int p1)]) hx hb dX12_fills_83 hl (k := 2) rfl (Eq.refl _) tk_1 (by omega) (by omega) (by decide) (fun _ => rfl) (fun x16 ls ex16 hl => ?_)
              replace hF := hF.trans (congrArg (dv_k f_X12_fills_66b) (dv_bn (ex16.symm)))
              refine lv_goto (tgt := 66) hx hb dX12_fills_86 (by decide) ?_
              replace hF := hF.trans (dv_kl)
              exact ih66 H82 locs ls x16 hB hR (lv_sub hl [1, 2, 0] rfl) hF (by omega) (by omega) (by omega)
        exact lp66 ((2147483648 : Int) - (0)).toNat H61 locs ls 0 hB hR (lv_sub hl [1, 2, 0] rfl) (by rw [tk_0]; exact hF) (by decide) (by decide) (by have w0 := tk_0; omega)
      · replace hF := hF.trans (if_neg (Int.not_le.mpr c55))
        exact th_vret hC hH hr hlocks hB.2.1 ⟨rfl, hB.1, hB.2.2, hR, (hF0.symm.trans hF)⟩ dX12_fills_58
    refine tr_if_eq (tgt := 50) hx hb dX12_fills_42 (by decide) (Eq.refl _) (fun c42 => ?_) (fun c42 => ?_)
    · replace hF := hF.trans (if_pos c42)
      exact jn50 H35 locs ls hB hR (lv_sub hl [0, 1] rfl) hF mm9
    · replace hF := hF.trans (if_neg c42)
      refine lv_aload_n hx hb dX12_fills_45 rfl (lv_at hl 0 rfl) ?_
      refine lv_iload_n hx hb dX12_fills_46 rfl (lv_at hl 1 rfl) ?_
      refine th_call (th_runV (As := [.int p1]) (rest := []) hC mf_X12_countsRow km_X12_412 im_X12_countsRow se_X12_countsRow (c_X12_countsRow l G Γ H35 hB.1 hR hU a0 h0 p1 (by omega) (by omega) (mo_rw_F k1 hB.1 h0 hB.2.2 (by decide))) rfl rfl ⟨Nat.le_of_ble_eq_true rfl, Nat.le_of_ble_eq_true rfl⟩ hB.1 h0 ro_46 rfl rfl hl.1 rfl (Nat.le_of_ble_eq_true rfl) dX12_fills_47 ⟨Nat.le_refl _, Nat.le_refl _⟩) hB.2.1 (fun v47 H47 locs hp hz hS => ?_)
      obtain ⟨rfl, hI1, hf, hR, z47_0⟩ := hp
      have hB := th_B_c hB hI1 hS hf (by decide)
      have mm17 := (th_F_o hf h0 ro_46 (j := 44) (by decide) (by decide)).trans mm8
      have mm18 := (th_F_o hf h0 ro_46 (j := 41) (by decide) (by decide)).trans mm9
      replace hF := hF.trans (dv_bn2 (z47_0))
      refine W.eq (g2 := F0 m 50 ls []) rfl ?_
      exact jn50 H47 locs ls hB hR (lv_sub hl [0, 1] rfl) hF mm18
  refine tr_if_eq (tgt := 16) hx hb dX12_fills_4 (by decide) (Eq.refl _) (fun c4 => ?_) (fun c4 => ?_)
  · replace hF := hF.trans (if_pos c4)
    exact jn16 [] ls hB (lv_sub hl [0, 1, 2] rfl) hF
  · replace hF := hF.trans (if_neg c4)
    refine lv_aload_n hx hb dX12_fills_7 rfl (lv_at hl 0 rfl) ?_
    refine lv_iload_n hx hb dX12_fills_8 rfl (lv_at hl 1 rfl) ?_
    refine th_call (th_runV (As := [.int p1]) (rest := []) hC mf_X12_isSeenSo km_X12_403 im_X12_isSeenSo se_X12_isSeenSo (c_X12_isSeenSo l G Γ H0 hB.1 hU a0 h0 p1 (by omega) (by omega)) rfl rfl ⟨Nat.le_of_ble_eq_true rfl, Nat.le_of_ble_eq_true rfl⟩ hB.1 h0 ro_46 rfl rfl hl.1 rfl (Nat.le_of_ble_eq_true rfl) dX12_fills_9 ⟨Nat.le_refl _, Nat.le_refl _⟩) hB.2.1 (fun v9 H9 locs hp hz hS => ?_)
    obtain ⟨x19, rfl, lx19, ux19, q9_0, rfl⟩ := hp
    have hB := th_B_s hB hS
    replace hF := hF.trans (dv_bn2 (q9_0))
    refine W.eq (g2 := F0 m 12 ls [.int x19]) rfl ?_
    refine tr_if_ne (tgt := 16) hx hb dX12_fills_12 (by decide) (Eq.refl _) (fun c12 => ?_) (fun c12 => ?_)
    · replace hF := hF.trans (if_pos c12)
      exact jn16 locs ls hB (lv_sub hl [0, 1, 2] rfl) hF
    · replace hF := hF.trans (if_neg (not_not_intro c12))
      exact th_vret hC hH hr hlocks hB.2.1 ⟨rfl, hB.1, hB.2.2, hR, (hF0.symm.trans hF)⟩ dX12_fills_15

def s_X12_goesOn (d : Nat) : Prop := ∀ (l : Launch) (G : th_G) (Γ : th_Ga) (H0 : Heap) (hI : th_I G Γ H0) (hR : th_RC G Γ H0) (hU : dv_U Γ) (a0 : Nat) (h0 : Γ a0 = (46, 0)) (p1 : Int32) (p2 : Int32) (f2 : 0 ≤ p2.toInt) (g2 : p2.toInt ≤ 9) (p3 : Int32) (k1 : ((mo_pc p1 : Nat) : Int) + p2.toInt ≤ 9) (k2 : mo_rw G H0 a0 p2.toInt) (hdm : 9 ≤ p2.toInt + (d : Int)), Met l yX12_goesOn (.code yX12_goesOn cX12_goesOn 8 (none) :: th_tb) ({ frames := 6 + d, cells := 0, slots := 0, locals := 143 + d * 27 } : Room) (th_P [.ref a0, .int p1, .int p2, .int p3] G H0) (th_Q (fun (v : Option Value) (H1 : Heap) => v = none ∧ th_I G Γ H1 ∧ th_F G Γ [(46, 41), (46, 42), (46, 43), (67, 0), (66, 0), (59, 0), (64, 0), (65, 0)] H0 H1 ∧ th_RC G Γ H1 ∧ (mo_rw G H1 a0 p2.toInt) ∧ (f_X12_goesOn d (dv G Γ H0) (a0 : Int) p1.toInt p2.toInt p3.toInt = (dv G Γ H1, 0))) G) 0 0 (fun q => G.2.2 ≤ q)
set_option maxHeartbeats 4000000 in
set_option maxRecDepth 100000 in
theorem c_X12_goesOn_s (d : Nat) (ihd : ∀ d', d = d' + 1 → s_X12_goesOn d') : s_X12_goesOn d := by
  intro l G Γ H0 hI hR hU a0 h0 p1 p2 f2 g2 p3 k1 k2 hdm
  refine th_met RX12 (by decide) rfl (Nat.le_of_ble_eq_true rfl) ?_
  intro p e s m below meth c hC hH hr hlocks hnm ls hl
  have hx := hC.1
  have hb := hC.2.1
  have hB : th_B G Γ Γ [(46, 41), (46, 42), (46, 43), (67, 0), (66, 0), (59, 0), (64, 0), (65, 0)] H0 H0 [] := ⟨hI, va_S.rf, th_F_rf⟩
  have hl : lv_has ls 8 [(0, .ref a0), (1, .int p1), (2, .int p2), (3, .int p3)] := hl
  have lp1 := ti_lo p1; have up1 := ti_hi p1
  have lp2 := ti_lo p2; have up2 := ti_hi p2
  have lp3 := ti_lo p3; have up3 := ti_hi p3
  obtain ⟨F, hF0⟩ : ∃ F, F = f_X12_goesOn d (dv G Γ H0) ((a0 : Int)) (p1.toInt) (p2.toInt) (p3.toInt) := ⟨_, rfl⟩
  have hF := hF0.trans ((f_X12_goesOn_d d (dv G Γ H0) ((a0 : Int)) (p1.toInt) (p2.toInt) (p3.toInt)).trans (f_X12_goesOn_B.eq_1 d (dv_pre (fun _ _ _ _ _ => dv_z) f_X12_goesOn d) (dv G Γ H0) ((a0 : Int)) (p1.toInt) (p2.toInt) (p3.toInt)))
  refine lv_aload_n hx hb dX12_goesOn_0 rfl (lv_at hl 0 rfl) ?_
  refine th_getI (j := 45) hC cf_X12 hB.1 h0 ro_46 rfl rfl kf_X12_418 dX12_goesOn_1 (fun x1 mx1 lx1 ux1 => ?_)
  replace hF := hF.trans (dv_bn (dv_getI h0 ro_46 (j := 45) rfl mx1 (by decide)))
  have jn15 : ∀ (locs : List Loc) (ls : Array Slot) , th_B G Γ Γ [(46, 41), (46, 42), (46, 43), (67, 0), (66, 0), (59, 0), (64, 0), (65, 0)] H0 H0 locs → lv_has ls 8 [(0, .ref a0), (1, .int p1), (2, .int p2), (3, .int p3)] → F = f_X12_goesOn_15 d (dv_pre (fun _ _ _ _ _ => dv_z) f_X12_goesOn d) (dv G Γ H0) ((a0 : Int)) (p1.toInt) (p2.toInt) (p3.toInt) → W p l e ({ frames := 6 + d, cells := 0, slots := 0, locals := 143 + d * 27 } : Room) s m ([.ref a0, .int p1, .int p2, .int p3] : List Value).toArray below meth c H0 locs 0 0 (MQ below (th_Q (fun (v : Option Value) (H1 : Heap) => v = none ∧ th_I G Γ H1 ∧ th_F G Γ [(46, 41), (46, 42), (46, 43), (67, 0), (66, 0), (59, 0), (64, 0), (65, 0)] H0 H1 ∧ th_RC G Γ H1 ∧ (mo_rw G H1 a0 p2.toInt) ∧ (f_X12_goesOn d (dv G Γ H0) (a0 : Int) p1.toInt p2.toInt p3.toInt = (dv G Γ H1, 0))) G) ([.ref a0, .int p1, .int p2, .int p3] : List Value).toArray s 0 0 (fun q => G.2.2 ≤ q)) (F0 m 15 ls []) := by
    intro locs ls hB hl hF
    replace hF := hF.trans (f_X12_goesOn_15.eq_1 d (dv_pre (fun _ _ _ _ _ => dv_z) f_X12_goesOn d) (dv G Γ H0) ((a0 : Int)) (p1.toInt) (p2.toInt) (p3.toInt))
    refine lv_aload_n hx hb dX12_goesOn_15 rfl (lv_at hl 0 rfl) ?_
    refine lv_aload_n hx hb dX12_goesOn_16 rfl (lv_at hl 0 rfl) ?_
    refine th_getI (j := 39) hC cf_X12 hB.1 h0 ro_46 rfl rfl kf_X12_421 dX12_goesOn_17 (fun x2 mx2 lx2 ux2 => ?_)
    replace hF := hF.trans (dv_bn (dv_getI h0 ro_46 (j := 39) rfl mx2 (by decide)))
    refine lv_aload_n hx hb dX12_goesOn_20 rfl (lv_at hl 0 rfl) ?_
    refine th_getI (j := 40) hC cf_X12 hB.1 h0 ro_46 rfl rfl kf_X12_424 dX12_goesOn_21 (fun x3 mx3 lx3 ux3 => ?_)
    replace hF := hF.trans (dv_bn (dv_getI h0 ro_46 (j := 40) rfl mx3 (by decide)))
    refine th_call (th_runV (As := [.int x2, .int x3]) (rest := []) hC mf_X12_firstBare km_X12_354 im_X12_firstBare se_X12_firstBare (c_X12_firstBare l G Γ H0 hB.1 hU a0 h0 x2 (by omega) (by omega) x3 (by omega) (by omega)) rfl rfl ⟨by dsimp only; omega, by dsimp only; omega⟩ hB.1 h0 ro_46 rfl rfl hl.1 rfl (Nat.le_of_ble_eq_true rfl) dX12_goesOn_24 ⟨Nat.le_refl _, Nat.le_refl _⟩) hB.2.1 (fun v24 H24 locs hp hz hS => ?_)
    obtain ⟨x4, rfl, lx4, ux4, q24_0, rfl⟩ := hp
    have hB := th_B_s hB hS
    replace hF := hF.trans (dv_bn2 (q24_0))
    refine W.eq (g2 := F0 m 27 ls [.int x4]) rfl ?_
    refine lv_istore (lv' := [(4, .int x4), (0, .ref a0), (1, .int p1), (2, .int p2), (3, .int p3)]) hx hb dX12_goesOn_27 hl (by decide) rfl (fun ls hl => ?_)
    refine lv_iload hx hb dX12_goesOn_29 (lv_at hl 0 rfl) ?_
    refine lv_iconst (v := (-1)) hx hb dX12_goesOn_31 (by decide) ?_
    refine tr_icmp_ne (tgt := 42) hx hb dX12_goesOn_32 (by decide) (Eq.refl _) tk_m1 (fun c32 => ?_) (fun c32 => ?_)
    · replace hF := hF.trans (if_pos c32)
      refine lv_iload hx hb dX12_goesOn_42 (lv_at hl 0 rfl) ?_
      refine lv_bipush (v := 12) hx hb dX12_goesOn_44 (by decide) ?_
      refine tr_irem hx hb dX12_goesOn_46 (Eq.refl _) tk_12 (by omega) (by omega) (fun x5 ex5 => ?_)
      replace hF := hF.trans (dv_bn (ex5.symm))
      refine lv_istore (lv' := [(5, .int x5), (4, .int x4), (0, .ref a0), (1, .int p1), (2, .int p2), (3, .int p3)]) hx hb dX12_goesOn_47 hl (by decide) rfl (fun ls hl => ?_)
      refine lv_iload hx hb dX12_goesOn_49 (lv_at hl 1 rfl) ?_
      refine lv_bipush (v := 12) hx hb dX12_goesOn_51 (by decide) ?_
      refine tr_idiv hx hb dX12_goesOn_53 (Eq.refl _) tk_12 (by omega) (by omega) (fun x6 ex6 => ?_)
      replace hF := hF.trans (dv_bn (ex6.symm))
      refine lv_istore (lv' := [(6, .int x6), (5, .int x5), (4, .int x4), (0, .ref a0), (1, .int p1), (2, .int p2), (3, .int p3)]) hx hb dX12_goesOn_54 hl (by decide) rfl (fun ls hl => ?_)
      refine lv_iconst (v := 0) hx hb dX12_goesOn_56 (by decide) ?_
      refine lv_istore (lv' := [(7, .int 0), (6, .int x6), (5, .int x5), (4, .int x4), (0, .ref a0), (1, .int p1), (2, .int p2), (3, .int p3)]) hx hb dX12_goesOn_57 hl (by decide) rfl (fun ls hl => ?_)
      have lp59 : ∀ (n59 : Nat) (H59 : Heap) (locs : List Loc) (ls : Array Slot) (j59_7 : Int32), th_B G Γ Γ [(46, 41), (46, 42), (46, 43), (67, 0), (66, 0), (59, 0), (64, 0), (65, 0)] H0 H59 locs → th_RC G Γ H59 → lv_has ls 8 [(6, .int x6), (5, .int x5), (4, .int x4), (0, .ref a0), (1, .int p1), (2, .int p2), (3, .int p3), (7, .int j59_7)] → F = dv_lp (f_X12_goesOn_59b d (dv_pre (fun _ _ _ _ _ => dv_z) f_X12_goesOn d)) (dv G Γ H59, x6.toInt, x5.toInt, x4.toInt, (a0 : Int), p1.toInt, p2.toInt, p3.toInt, j59_7.toInt) → 0 ≤ j59_7.toInt → j59_7.toInt ≤ 9 → mo_rw G H59 a0 p2.toInt → (2147483648 : Int) - j59_7.toInt ≤ (n59 : Int) → W p l e ({ frames := 6 + d, cells := 0, slots := 0, locals := 143 + d * 27 } : Room) s m ([.ref a0, .int p1, .int p2, .int p3] : List Value).toArray below meth c H59 locs 0 0 (MQ below (th_Q (fun (v : Option Value) (H1 : Heap) => v = none ∧ th_I G Γ H1 ∧ th_F G Γ [(46, 41), (46, 42), (46, 43), (67, 0), (66, 0), (59, 0), (64, 0), (65, 0)] H0 H1 ∧ th_RC G Γ H1 ∧ (mo_rw G H1 a0 p2.toInt) ∧ (f_X12_goesOn d (dv G Γ H0) (a0 : Int) p1.toInt p2.toInt p3.toInt = (dv G Γ H1, 0))) G) ([.ref a0, .int p1, .int p2, .int p3] : List Value).toArray s 0 0 (fun q => G.2.2 ≤ q)) (F0 m 59 ls []) := by
        intro n59
        induction n59 with
        | zero => intro H59 locs ls j59_7 hB hR hl hF g59_0 g59_1 g59_2 hm59; exact absurd hm59 (by have := ti_hi j59_7; omega)
        | succ n59 ih59 =>
          intro H59 locs ls j59_7 hB hR hl hF g59_0 g59_1 g59_2 hm59
          have lj59_7 := ti_lo j59_7; have uj59_7 := ti_hi j59_7
          have mm7 := (th_F_o hB.2.2 h0 ro_46 (j := 39) (by decide) (by decide)).trans mx2
          have mm8 := (th_F_o hB.2.2 h0 ro_46 (j := 40) (by decide) (by decide)).trans mx3
          have vw_H59_2 : mo_v G H59 a0 2 = mo_v G H0 a0 2 := mo_v_F (r := 48) hB.1 hB.2.2 h0 rfl ro_48 (by decide) (by decide)
          have hm59 : (2147483648 : Int) - j59_7.toInt ≤ (n59 : Int) + 1 := by omega
          replace hF := hF.trans (dv_lp_eq)
          replace hF := hF.trans (congrArg (dv_k (f_X12_goesOn_59b d (dv_pre (fun _ _ _ _ _ => dv_z) f_X12_goesOn d))) (f_X12_goesOn_59c.eq_1 d (dv_pre (fun _ _ _ _ _ => dv_z) f_X12_goesOn d) (dv G Γ H59) (x6.toInt) (x5.toInt) (x4.toInt) ((a0 : Int)) (p1.toInt) (p2.toInt) (p3.toInt) (j59_7.toInt)))
          refine lv_iload hx hb dX12_goesOn_59 (lv_at hl 7 rfl) ?_
          refine lv_aload_n hx hb dX12_goesOn_61 rfl (lv_at hl 3 rfl) ?_
          refine th_call (th_runV (As := []) (rest := [.int j59_7]) hC mf_X12_many km_X12_115 im_X12_many se_X12_many (c_X12_many l G Γ H59 hB.1 hU a0 h0) rfl rfl ⟨by dsimp only; omega, by dsimp only; omega⟩ hB.1 h0 ro_46 rfl rfl hl.1 rfl (Nat.le_of_ble_eq_true rfl) dX12_goesOn_62 ⟨Nat.le_refl _, Nat.le_refl _⟩) hB.2.1 (fun v62 H62 locs hp hz hS => ?_)
          obtain ⟨x9, rfl, lx9, ux9, q62_0, q62_1, rfl⟩ := hp
          have hB := th_B_s hB hS
          rw [(mo_v_F (r := 48) hB.1 hB.2.2 h0 rfl ro_48 (by decide) (by decide) : mo_v G H59 a0 2 = mo_v G H0 a0 2)] at q62_0
          replace hF := hF.trans (congrArg (dv_k (f_X12_goesOn_59b d (dv_pre (fun _ _ _ _ _ => dv_z) f_X12_goesOn d))) (dv_bn2 (q62_1)))
          refine W.eq (g2 := F0 m 65 ls [.int x9, .int j59_7]) rfl ?_
          refine tr_icmp_ge (tgt := 204) hx hb dX12_goesOn_65 (by decide) (Eq.refl _) (Eq.refl _) (fun c65 => ?_) (fun c65 => ?_)
          · replace hF := hF.trans (congrArg (dv_k (f_X12_goesOn_59b d (dv_pre (fun _ _ _ _ _ => dv_z) f_X12_goesOn d))) (if_pos c65))
            replace hF := hF.trans (dv_kr)
            exact th_vret hC hH hr hlocks hB.2.1 ⟨rfl, hB.1, hB.2.2, hR, g59_2, (hF0.symm.trans hF)⟩ dX12_goesOn_204
          · replace hF := hF.trans (congrArg (dv_k (f_X12_goesOn_59b d (dv_pre (fun _ _ _ _ _ => dv_z) f_X12_goesOn d))) (if_neg (Int.not_le.mpr c65)))
            refine lv_iload_n hx hb dX12_goesOn_68 rfl (lv_at hl 4 rfl) ?_
            refine lv_iload hx hb dX12_goesOn_69 (lv_at hl 7 rfl) ?_
            refine th_call (th_runS (As := [.int p1, .int j59_7]) (rest := []) hC mf_X12_isIn km_X12_348 st_X12_isIn (c_X12_isIn l G Γ H59 hB.1 hU p1 j59_7 (by omega) (by omega)) rfl rfl ⟨by dsimp only; omega, by dsimp only; omega⟩ rfl hl.1 rfl (Nat.le_of_ble_eq_true rfl) dX12_goesOn_71 ⟨Nat.le_refl _, Nat.le_refl _⟩) hB.2.1 (fun v71 H71 locs hp hz hS => ?_)
            obtain ⟨x10, rfl, lx10, ux10, q71_0, q71_1, rfl⟩ := hp
            have hB := th_B_s hB hS
            replace hF := hF.trans (congrArg (dv_k (f_X12_goesOn_59b d (dv_pre (fun _ _ _ _ _ => dv_z) f_X12_goesOn d))) (dv_bn2 (q71_1)))
            refine W.eq (g2 := F0 m 74 ls [.int x10]) rfl ?_
            refine tr_if_eq (tgt := 198) hx hb dX12_goesOn_74 (by decide) (Eq.refl _) (fun c74 => ?_) (fun c74 => ?_)
            · replace hF := hF.trans (congrArg (dv_k (f_X12_goesOn_59b d (dv_pre (fun _ _ _ _ _ => dv_z) f_X12_goesOn d))) (if_pos c74))
              refine tr_iinc (fun x11 => [(7, .int x11), (6, .int x6), (5, .int x5), (4, .int x4), (0, .ref a0), (1, .int p1), (2, .int p2), (3, .int p3)]) hx hb dX12_goesOn_198 hl (k := 7) rfl (Eq.refl _) tk_1 (by omega) (by omega) (by decide) (fun _ => rfl) (fun x11 ls ex11 hl => ?_)
              replace hF := hF.trans (congrArg (dv_k (f_X12_goesOn_59b d (dv_pre (fun _ _ _ _ _ => dv_z) f_X12_goesOn d))) (dv_bn (ex11.symm)))
              refine lv_goto (tgt := 59) hx hb dX12_goesOn_201 (by decide) ?_
              replace hF := hF.trans (dv_kl)
              exact ih59 H59 locs ls x11 hB hR (lv_sub hl [1, 2, 3, 4, 5, 6, 7, 0] rfl) hF (by omega) (by omega) g59_2 (by omega)
            · replace hF := hF.trans (congrArg (dv_k (f_X12_goesOn_59b d (dv_pre (fun _ _ _ _ _ => dv_z) f_X12_goesOn d))) (if_neg c74))
              refine lv_aload_n hx hb dX12_goesOn_77 rfl (lv_at hl 3 rfl) ?_
              refine lv_iload hx hb dX12_goesOn_78 (lv_at hl 7 rfl) ?_
              refine lv_iload hx hb dX12_goesOn_80 (lv_at hl 2 rfl) ?_
              refine th_call (th_runV (As := [.int j59_7, .int x4]) (rest := []) hC mf_X12_priceAt km_X12_430 im_X12_priceAt se_X12_priceAt (c_X12_priceAt l G Γ H59 hB.1 hU a0 h0 j59_7 (by omega) (by omega) x4 (by omega) (by omega)) rfl rfl ⟨by dsimp only; omega, by dsimp only; omega⟩ hB.1 h0 ro_46 rfl rfl hl.1 rfl (Nat.le_of_ble_eq_true rfl) dX12_goesOn_82 ⟨Nat.le_refl _, Nat.le_refl _⟩) hB.2.1 (fun v82 H82 locs hp hz hS => ?_)
              obtain ⟨x12, rfl, q82_0, rfl⟩ := hp
              have hB := th_B_s hB hS
              replace hF := hF.trans (congrArg (dv_k (f_X12_goesOn_59b d (dv_pre (fun _ _ _ _ _ => dv_z) f_X12_goesOn d))) (dv_bn2 (q82_0)))
              refine W.eq (g2 := F0 m 85 ls [.int x12]) rfl ?_
              refine lv_iconst (v := (-1)) hx hb dX12_goesOn_85 (by decide) ?_
              refine tr_icmp_eq (tgt := 198) hx hb dX12_goesOn_86 (by decide) (Eq.refl _) tk_m1 (fun c86 => ?_) (fun c86 => ?_)
              · replace hF := hF.trans (congrArg (dv_k (f_X12_goesOn_59b d (dv_pre (fun _ _ _ _ _ => dv_z) f_X12_goesOn d))) (if_pos c86))
                refine tr_iinc (fun x13 => [(7, .int x13), (6, .int x6), (5, .int x5), (4, .int x4), (0, .ref a0), (1, .int p1), (2, .int p2), (3, .int p3)]) hx hb dX12_goesOn_198 hl (k := 7) rfl (Eq.refl _) tk_1 (by omega) (by omega) (by decide) (fun _ => rfl) (fun x13 ls ex13 hl => ?_)
                replace hF := hF.trans (congrArg (dv_k (f_X12_goesOn_59b d (dv_pre (fun _ _ _ _ _ => dv_z) f_X12_goesOn d))) (dv_bn (ex13.symm)))
                refine lv_goto (tgt := 59) hx hb dX12_goesOn_201 (by decide) ?_
                replace hF := hF.trans (dv_kl)
                exact ih59 H59 locs ls x13 hB hR (lv_sub hl [1, 2, 3, 4, 5, 6, 7, 0] rfl) hF (by omega) (by omega) g59_2 (by omega)
              · replace hF := hF.trans (congrArg (dv_k (f_X12_goesOn_59b d (dv_pre (fun _ _ _ _ _ => dv_z) f_X12_goesOn d))) (if_neg c86))
                refine lv_aload_n hx hb dX12_goesOn_89 rfl (lv_at hl 3 rfl) ?_
                refine lv_aload_n hx hb dX12_goesOn_90 rfl (lv_at hl 3 rfl) ?_
                refine th_getO (j := 2) (r2 := 48) hC cf_X12 hB.1 h0 ro_46 rfl rfl kf_X12_28 dX12_goesOn_91 (fun b14 mb14 hb14 => ?_)
                have sb14 := (th_F_o hB.2.2 h0 ro_46 (j := 2) (by decide) (by decide)).symm.trans mb14
                refine lv_bipush (v := 29) hx hb dX12_goesOn_94 (by decide) ?_
                refine lv_iload hx hb dX12_goesOn_96 (lv_at hl 7 rfl) ?_
                refine tr_iadd hx hb dX12_goesOn_98 tk_29 (Eq.refl _) (by omega) (by omega) (fun x15 ex15 => ?_)
                replace hF := hF.trans (congrArg (dv_k (f_X12_goesOn_59b d (dv_pre (fun _ _ _ _ _ => dv_z) f_X12_goesOn d))) (dv_bn (ex15.symm)))
                refine th_ialdF hC hB.1 hb14 ro_48 rfl (Eq.refl _) (by omega) (by omega) (ek_side (by omega) (by omega)) dX12_goesOn_99 (fun x16 mx16 lx16 ux16 => ?_)
                replace hF := hF.trans (congrArg (dv_k (f_X12_goesOn_59b d (dv_pre (fun _ _ _ _ _ => dv_z) f_X12_goesOn d))) (dv_bn (dv_aldI hB.1 hU hb14 ow_48 (z := x15.toInt) mx16 (by omega))))
                have vgx16 : mo_v G H0 a0 2 (29 + j59_7.toInt) = x16.toInt := by rw [← (mo_v_F (r := 48) hB.1 hB.2.2 h0 rfl ro_48 (by decide) (by decide) : mo_v G H59 a0 2 = _)]; rw [show ((29 + j59_7.toInt) : Int) = x15.toInt by omega]; exact mo_vat mb14 mx16 (by omega)
                refine lv_iload hx hb dX12_goesOn_100 (lv_at hl 1 rfl) ?_
                refine lv_iload hx hb dX12_goesOn_102 (lv_at hl 0 rfl) ?_
                refine lv_aload_n hx hb dX12_goesOn_104 rfl (lv_at hl 3 rfl) ?_
                refine th_getK hC cf_X12 hB.1 h0 ro_46 rfl (j := 39) (by decide) mm7 kf_X12_421 dX12_goesOn_105 ?_
                replace hF := hF.trans (congrArg (dv_k (f_X12_goesOn_59b d (dv_pre (fun _ _ _ _ _ => dv_z) f_X12_goesOn d))) (dv_bn (dv_getI h0 ro_46 (j := 39) rfl mm7 (by decide))))
                refine lv_aload_n hx hb dX12_goesOn_108 rfl (lv_at hl 3 rfl) ?_
                refine th_getK hC cf_X12 hB.1 h0 ro_46 rfl (j := 40) (by decide) mm8 kf_X12_424 dX12_goesOn_109 ?_
                replace hF := hF.trans (congrArg (dv_k (f_X12_goesOn_59b d (dv_pre (fun _ _ _ _ _ => dv_z) f_X12_goesOn d))) (dv_bn (dv_getI h0 ro_46 (j := 40) rfl mm8 (by decide))))
                refine th_call (th_runV (As := [.int x16, .int x5, .int x6, .int x2, .int x3]) (rest := []) hC mf_X12_isFree km_X12_360 im_X12_isFree se_X12_isFree (c_X12_isFree l G Γ H59 hB.1 hU a0 h0 x16 (by omega) (by omega) x5 (by omega) (by omega) x6 (by omega) (by omega) x2 (by omega) (by omega) x3 (by omega) (by omega)) rfl rfl ⟨by dsimp only; omega, by dsimp only; omega⟩ hB.1 h0 ro_46 rfl rfl hl.1 rfl (Nat.le_of_ble_eq_true rfl) dX12_goesOn_112 ⟨Nat.le_refl _, Nat.le_refl _⟩) hB.2.1 (fun v112 H112 locs hp hz hS => ?_)
                obtain ⟨x17, rfl, lx17, ux17, q112_0, q112_1, q112_2, rfl⟩ := hp
                have hB := th_B_s hB hS
                replace hF := hF.trans (congrArg (dv_k (f_X12_goesOn_59b d (dv_pre (fun _ _ _ _ _ => dv_z) f_X12_goesOn d))) (dv_bn2 (q112_2)))
                refine W.eq (g2 := F0 m 115 ls [.int x17]) rfl ?_
                refine tr_if_ne (tgt := 121) hx hb dX12_goesOn_115 (by decide) (Eq.refl _) (fun c115 => ?_) (fun c115 => ?_)
                · replace hF := hF.trans (congrArg (dv_k (f_X12_goesOn_59b d (dv_pre (fun _ _ _ _ _ => dv_z) f_X12_goesOn d))) (if_pos c115))
                  refine lv_aload_n hx hb dX12_goesOn_121 rfl (lv_at hl 3 rfl) ?_
                  have pb := mo_pc_pos (x := p1) (c := j59_7) (by omega) (by omega) (q71_0 (by omega))
                  have fi := q112_0 (by omega)
                  refine lv_aload_n hx hb dX12_goesOn_122 rfl (lv_at hl 3 rfl) ?_
                  refine th_getK hC cf_X12 hB.1 h0 ro_46 rfl (j := 2) (by decide) mb14 kf_X12_28 dX12_goesOn_123 ?_
                  refine lv_bipush (v := 29) hx hb dX12_goesOn_126 (by decide) ?_
                  refine lv_iload hx hb dX12_goesOn_128 (lv_at hl 7 rfl) ?_
                  refine tr_iadd hx hb dX12_goesOn_130 tk_29 (Eq.refl _) (by omega) (by omega) (fun x18 ex18 => ?_)
                  replace hF := hF.trans (congrArg (dv_k (f_X12_goesOn_59b d (dv_pre (fun _ _ _ _ _ => dv_z) f_X12_goesOn d))) (dv_bn (ex18.symm)))
                  refine th_ialdF hC hB.1 hb14 ro_48 rfl (Eq.refl _) (by omega) (by omega) (ek_side (by omega) (by omega)) dX12_goesOn_131 (fun x19 mx19 lx19 ux19 => ?_)
                  replace hF := hF.trans (congrArg (dv_k (f_X12_goesOn_59b d (dv_pre (fun _ _ _ _ _ => dv_z) f_X12_goesOn d))) (dv_bn (dv_aldI hB.1 hU hb14 ow_48 (z := x18.toInt) mx19 (by omega))))
                  have vgx19 : mo_v G H0 a0 2 (29 + j59_7.toInt) = x19.toInt := by rw [← (mo_v_F (r := 48) hB.1 hB.2.2 h0 rfl ro_48 (by decide) (by decide) : mo_v G H59 a0 2 = _)]; rw [show ((29 + j59_7.toInt) : Int) = x18.toInt by omega]; exact mo_vat mb14 mx19 (by omega)
                  refine lv_iload hx hb dX12_goesOn_132 (lv_at hl 1 rfl) ?_
                  refine lv_iload hx hb dX12_goesOn_134 (lv_at hl 0 rfl) ?_
                  refine th_call (th_runV (As := [.int x19, .int x5, .int x6]) (rest := []) hC mf_X12_turnsSquare km_X12_345 im_X12_turnsSquare se_X12_turnsSquare (c_X12_turnsSquare l G Γ H59 hB.1 hR hU a0 h0 x19 (by omega) (by omega) x5 (by omega) (by omega) x6 (by omega) (by omega) (by omega)) rfl rfl ⟨by dsimp only; omega, by dsimp only; omega⟩ hB.1 h0 ro_46 rfl rfl hl.1 rfl (Nat.le_of_ble_eq_true rfl) dX12_goesOn_136 ⟨Nat.le_refl _, Nat.le_refl _⟩) hB.2.1 (fun v136 H136 locs hp hz hS => ?_)
                  obtain ⟨rfl, hI1, hf, hR, z136_0, z136_1⟩ := hp
                  have hB := th_B_c hB hI1 hS hf (by decide)
                  have mm20 := (th_F_o hf h0 ro_46 (j := 39) (by decide) (by decide)).trans mm7
                  have mm21 := (th_F_o hf h0 ro_46 (j := 40) (by decide) (by decide)).trans mm8
                  have mm22 := (th_F_o hf h0 ro_46 (j := 2) (by decide) (by decide)).trans mb14
                  have vv_H136_2 : mo_v G H136 a0 2 = mo_v G H59 a0 2 := mo_v_F (r := 48) hB.1 hf h0 rfl ro_48 (by decide) (by decide)
                  have vv_H136_35 : mo_v G H136 a0 35 = mo_v G H59 a0 35 := mo_v_F (r := 64) hB.1 hf h0 rfl ro_64 (by decide) (by decide)
                  have vv_H136_36 : mo_v G H136 a0 36 = mo_v G H59 a0 36 := mo_v_F (r := 65) hB.1 hf h0 rfl ro_65 (by decide) (by decide)
                  replace hF := hF.trans (congrArg (dv_k (f_X12_goesOn_59b d (dv_pre (fun _ _ _ _ _ => dv_z) f_X12_goesOn d))) (dv_bn2 (z136_1)))
                  refine W.eq (g2 := F0 m 139 ls []) rfl ?_
                  have rwA := mo_rw_F g59_2 hB.1 h0 hf (by decide)
                  refine lv_aload_n hx hb dX12_goesOn_139 rfl (lv_at hl 3 rfl) ?_
                  refine th_getO (j := 35) (r2 := 64) hC cf_X12 hB.1 h0 ro_46 rfl rfl kf_X12_81 dX12_goesOn_140 (fun b23 mb23 hb23 => ?_)
                  have sb23 := (th_F_o hB.2.2 h0 ro_46 (j := 35) (by decide) (by decide)).symm.trans mb23
                  refine lv_iload_n hx hb dX12_goesOn_143 rfl (lv_at hl 5 rfl) ?_
                  refine lv_iload hx hb dX12_goesOn_144 (lv_at hl 7 rfl) ?_
                  have hIo := hB.1
                  refine th_iastF hC hB hb23 (Or.inl hb23) ro_64 rfl (by decide) (Eq.refl _) (by omega) (by omega) (th_sI (by omega) (by omega)) dX12_goesOn_146 (fun H146 locs hB hf146 hst146 => ?_)
                  have hf := hf146
                  have mm24 := (th_F_o hf h0 ro_46 (j := 39) (by decide) (by decide)).trans mm20
                  have mm25 := (th_F_o hf h0 ro_46 (j := 40) (by decide) (by decide)).trans mm21
                  have mm26 := (th_F_o hf h0 ro_46 (j := 2) (by decide) (by decide)).trans mm22
                  have mm27 := (th_F_o hf h0 ro_46 (j := 35) (by decide) (by decide)).trans mb23
                  have hR := th_RC_F hB.1 hR hf (th_T_s hb23 ro_64 hst146) (by decide)
                  have vv_H146_2 : mo_v G H146 a0 2 = mo_v G H136 a0 2 := mo_v_F (r := 48) hB.1 hf h0 rfl ro_48 (by decide) (by decide)
                  have vv_H146_36 : mo_v G H146 a0 36 = mo_v G H136 a0 36 := mo_v_F (r := 65) hB.1 hf h0 rfl ro_65 (by decide) (by decide)
                  replace hF := hF.trans (congrArg (dv_k (f_X12_goesOn_59b d (dv_pre (fun _ _ _ _ _ => dv_z) f_X12_goesOn d))) (dv_bn (dv_stoI hIo hB.1 hU hb23 ow_64 (i := p2.toInt) hst146 (Eq.refl _) (by omega))))
                  have vs146 : mo_v G H146 a0 35 = mo_u (mo_v G H136 a0 35) p2.toInt j59_7.toInt := by rw [show (p2.toInt : Int) = p2.toInt by omega]; exact mo_v_st h0 hb23 (by decide) mb23 hst146 (by omega)
                  refine lv_aload_n hx hb dX12_goesOn_147 rfl (lv_at hl 3 rfl) ?_
                  refine th_getO (j := 36) (r2 := 65) hC cf_X12 hB.1 h0 ro_46 rfl rfl kf_X12_84 dX12_goesOn_148 (fun b28 mb28 hb28 => ?_)
                  have sb28 := (th_F_o hB.2.2 h0 ro_46 (j := 36) (by decide) (by decide)).symm.trans mb28
                  refine lv_iload_n hx hb dX12_goesOn_151 rfl (lv_at hl 5 rfl) ?_
                  refine lv_iload hx hb dX12_goesOn_152 (lv_at hl 2 rfl) ?_
                  have hIo := hB.1
                  refine th_iastF hC hB hb28 (Or.inl hb28) ro_65 rfl (by decide) (Eq.refl _) (by omega) (by omega) (th_sI (by omega) (by omega)) dX12_goesOn_154 (fun H154 locs hB hf154 hst154 => ?_)
                  have hf := hf154
                  have mm29 := (th_F_o hf h0 ro_46 (j := 39) (by decide) (by decide)).trans mm24
                  have mm30 := (th_F_o hf h0 ro_46 (j := 40) (by decide) (by decide)).trans mm25
                  have mm31 := (th_F_o hf h0 ro_46 (j := 2) (by decide) (by decide)).trans mm26
                  have mm32 := (th_F_o hf h0 ro_46 (j := 35) (by decide) (by decide)).trans mm27
                  have mm33 := (th_F_o hf h0 ro_46 (j := 36) (by decide) (by decide)).trans mb28
                  have hR := th_RC_F hB.1 hR hf (th_T_s hb28 ro_65 hst154) (by decide)
                  have vv_H154_2 : mo_v G H154 a0 2 = mo_v G H146 a0 2 := mo_v_F (r := 48) hB.1 hf h0 rfl ro_48 (by decide) (by decide)
                  have vv_H154_35 : mo_v G H154 a0 35 = mo_v G H146 a0 35 := mo_v_F (r := 64) hB.1 hf h0 rfl ro_64 (by decide) (by decide)
                  replace hF := hF.trans (congrArg (dv_k (f_X12_goesOn_59b d (dv_pre (fun _ _ _ _ _ => dv_z) f_X12_goesOn d))) (dv_bn (dv_stoI hIo hB.1 hU hb28 ow_65 (i := p2.toInt) hst154 (Eq.refl _) (by omega))))
                  have vs154 : mo_v G H154 a0 36 = mo_u (mo_v G H146 a0 36) p2.toInt x4.toInt := by rw [show (p2.toInt : Int) = p2.toInt by omega]; exact mo_v_st h0 hb28 (by decide) mb28 hst154 (by omega)
                  have rw1 := mo_rw_s (n := p2.toInt) (c := j59_7.toInt) (q := x4.toInt) rwA (vv_H154_2.trans vv_H146_2) (by rw [vv_H154_35, vs146]) (by rw [vs154, vv_H146_36]) (by rw [vv_H136_2, vw_H59_2]; omega) (by rw [vv_H136_2, vw_H59_2]; omega)
                  refine lv_aload_n hx hb dX12_goesOn_155 rfl (lv_at hl 3 rfl) ?_
                  refine lv_iload_n hx hb dX12_goesOn_156 rfl (lv_at hl 4 rfl) ?_
                  refine lv_iconst (v := 1) hx hb dX12_goesOn_157 (by decide) ?_
                  refine lv_iload hx hb dX12_goesOn_158 (lv_at hl 7 rfl) ?_
                  refine lv_ishl hx hb dX12_goesOn_160 ?_
                  refine lv_topi (fun x34 ex34 => ?_)
                  have lx34 := ti_lo x34; have ux34 := ti_hi x34
                  replace hF := hF.trans (congrArg (dv_k (f_X12_goesOn_59b d (dv_pre (fun _ _ _ _ _ => dv_z) f_X12_goesOn d))) (dv_bn (dv_shl_e tk_1 (Eq.refl _) ex34)))
                  refine lv_iconst (v := (-1)) hx hb dX12_goesOn_161 (by decide) ?_
                  refine lv_ixor hx hb dX12_goesOn_162 ?_
                  refine lv_topi (fun x35 ex35 => ?_)
                  have lx35 := ti_lo x35; have ux35 := ti_hi x35
                  replace hF := hF.trans (congrArg (dv_k (f_X12_goesOn_59b d (dv_pre (fun _ _ _ _ _ => dv_z) f_X12_goesOn d))) (dv_bn (dv_xor_e (Eq.refl _) tk_m1 ex35)))
                  refine lv_iand hx hb dX12_goesOn_163 ?_
                  refine lv_topi (fun x36 ex36 => ?_)
                  have lx36 := ti_lo x36; have ux36 := ti_hi x36
                  replace hF := hF.trans (congrArg (dv_k (f_X12_goesOn_59b d (dv_pre (fun _ _ _ _ _ => dv_z) f_X12_goesOn d))) (dv_bn (dv_and_e (Eq.refl _) (Eq.refl _) ex36)))
                  have dr := mo_pc_drop (x := p1) (c := j59_7) (by omega) (by omega) (q71_0 (by omega)) ex34 ex35 ex36
                  refine lv_iload_n hx hb dX12_goesOn_164 rfl (lv_at hl 5 rfl) ?_
                  refine lv_iconst (v := 1) hx hb dX12_goesOn_165 (by decide) ?_
                  refine tr_iadd hx hb dX12_goesOn_166 (Eq.refl _) tk_1 (by omega) (by omega) (fun x37 ex37 => ?_)
                  replace hF := hF.trans (congrArg (dv_k (f_X12_goesOn_59b d (dv_pre (fun _ _ _ _ _ => dv_z) f_X12_goesOn d))) (dv_bn (ex37.symm)))
                  refine lv_iload_n hx hb dX12_goesOn_167 rfl (lv_at hl 6 rfl) ?_
                  refine lv_aload_n hx hb dX12_goesOn_168 rfl (lv_at hl 3 rfl) ?_
                  refine lv_iload hx hb dX12_goesOn_169 (lv_at hl 7 rfl) ?_
                  refine lv_iload hx hb dX12_goesOn_171 (lv_at hl 2 rfl) ?_
                  refine th_call (th_runV (As := [.int j59_7, .int x4]) (rest := [.int p3, .int x37, .int x36, .ref a0]) hC mf_X12_priceAt km_X12_430 im_X12_priceAt se_X12_priceAt (c_X12_priceAt l G Γ H154 hB.1 hU a0 h0 j59_7 (by omega) (by omega) x4 (by omega) (by omega)) rfl rfl ⟨by dsimp only; omega, by dsimp only; omega⟩ hB.1 h0 ro_46 rfl rfl hl.1 rfl (Nat.le_of_ble_eq_true rfl) dX12_goesOn_173 ⟨Nat.le_refl _, Nat.le_refl _⟩) hB.2.1 (fun v173 H173 locs hp hz hS => ?_)
                  obtain ⟨x38, rfl, q173_0, rfl⟩ := hp
                  have hB := th_B_s hB hS
                  replace hF := hF.trans (congrArg (dv_k (f_X12_goesOn_59b d (dv_pre (fun _ _ _ _ _ => dv_z) f_X12_goesOn d))) (dv_bn2 (q173_0)))
                  refine W.eq (g2 := F0 m 176 ls [.int x38, .int p3, .int x37, .int x36, .ref a0]) rfl ?_
                  refine lv_iadd hx hb dX12_goesOn_176 ?_
                  refine lv_topi (fun x39 ex39 => ?_)
                  have lx39 := ti_lo x39; have ux39 := ti_hi x39
                  replace hF := hF.trans (congrArg (dv_k (f_X12_goesOn_59b d (dv_pre (fun _ _ _ _ _ => dv_z) f_X12_goesOn d))) (dv_bn (dv_add_e (Eq.refl _) (Eq.refl _) ex39)))
                  obtain ⟨d', hd'⟩ : ∃ d', d = d' + 1 := ⟨d - 1, by omega⟩
                  refine th_call (th_runV (As := [.int x36, .int x37, .int x39]) (rest := []) hC mf_X12_goesOn km_X12_433 im_X12_goesOn se_X12_goesOn (ihd d' hd' l G Γ H154 hB.1 hR hU a0 h0 x36 x37 (by omega) (by omega) x39 (by omega) (by rw [show x37.toInt = p2.toInt + 1 by omega]; exact rw1) (by omega)) rfl rfl ⟨by dsimp only; omega, by dsimp only; omega⟩ hB.1 h0 ro_46 rfl rfl hl.1 rfl (Nat.le_of_ble_eq_true rfl) dX12_goesOn_177 ⟨Nat.le_refl _, Nat.le_refl _⟩) hB.2.1 (fun v177 H177 locs hp hz hS => ?_)
                  obtain ⟨rfl, hI1, hf, hR, z177_0, z177_1⟩ := hp
                  have hB := th_B_c hB hI1 hS hf (by decide)
                  have mm40 := (th_F_o hf h0 ro_46 (j := 39) (by decide) (by decide)).trans mm29
                  have mm41 := (th_F_o hf h0 ro_46 (j := 40) (by decide) (by decide)).trans mm30
                  have mm42 := (th_F_o hf h0 ro_46 (j := 2) (by decide) (by decide)).trans mm31
                  have mm43 := (th_F_o hf h0 ro_46 (j := 35) (by decide) (by decide)).trans mm32
                  have mm44 := (th_F_o hf h0 ro_46 (j := 36) (by decide) (by decide)).trans mm33
                  have vv_H177_2 : mo_v G H177 a0 2 = mo_v G H154 a0 2 := mo_v_F (r := 48) hB.1 hf h0 rfl ro_48 (by decide) (by decide)
                  have zf177 := z177_1
                  rw [← dv_pre_s (z := (fun _ _ _ _ _ => dv_z)) (f := f_X12_goesOn) hd'] at zf177
                  replace hF := hF.trans (congrArg (dv_k (f_X12_goesOn_59b d (dv_pre (fun _ _ _ _ _ => dv_z) f_X12_goesOn d))) (dv_bn2 (zf177)))
                  refine W.eq (g2 := F0 m 180 ls []) rfl ?_
                  refine lv_aload_n hx hb dX12_goesOn_180 rfl (lv_at hl 3 rfl) ?_
                  refine lv_aload_n hx hb dX12_goesOn_181 rfl (lv_at hl 3 rfl) ?_
                  refine th_getK hC cf_X12 hB.1 h0 ro_46 rfl (j := 2) (by decide) mm42 kf_X12_28 dX12_goesOn_182 ?_
                  refine lv_bipush (v := 29) hx hb dX12_goesOn_185 (by decide) ?_
                  refine lv_iload hx hb dX12_goesOn_187 (lv_at hl 7 rfl) ?_
                  refine tr_iadd hx hb dX12_goesOn_189 tk_29 (Eq.refl _) (by omega) (by omega) (fun x45 ex45 => ?_)
                  replace hF := hF.trans (congrArg (dv_k (f_X12_goesOn_59b d (dv_pre (fun _ _ _ _ _ => dv_z) f_X12_goesOn d))) (dv_bn (ex45.symm)))
                  refine th_ialdF hC hB.1 hb14 ro_48 rfl (Eq.refl _) (by omega) (by omega) (ek_side (by omega) (by omega)) dX12_goesOn_190 (fun x46 mx46 lx46 ux46 => ?_)
                  replace hF := hF.trans (congrArg (dv_k (f_X12_goesOn_59b d (dv_pre (fun _ _ _ _ _ => dv_z) f_X12_goesOn d))) (dv_bn (dv_aldI hB.1 hU hb14 ow_48 (z := x45.toInt) mx46 (by omega))))
                  have vgx46 : mo_v G H0 a0 2 (29 + j59_7.toInt) = x46.toInt := by rw [← (mo_v_F (r := 48) hB.1 hB.2.2 h0 rfl ro_48 (by decide) (by decide) : mo_v G H177 a0 2 = _)]; rw [show ((29 + j59_7.toInt) : Int) = x45.toInt by omega]; exact mo_vat mm42 mx46 (by omega)
                  refine lv_iload hx hb dX12_goesOn_191 (lv_at hl 1 rfl) ?_
                  refine lv_iload hx hb dX12_goesOn_193 (lv_at hl 0 rfl) ?_
                  refine th_call (th_runV (As := [.int x46, .int x5, .int x6]) (rest := []) hC mf_X12_turnsSquare km_X12_345 im_X12_turnsSquare se_X12_turnsSquare (c_X12_turnsSquare l G Γ H177 hB.1 hR hU a0 h0 x46 (by omega) (by omega) x5 (by omega) (by omega) x6 (by omega) (by omega) (by omega)) rfl rfl ⟨by dsimp only; omega, by dsimp only; omega⟩ hB.1 h0 ro_46 rfl rfl hl.1 rfl (Nat.le_of_ble_eq_true rfl) dX12_goesOn_195 ⟨Nat.le_refl _, Nat.le_refl _⟩) hB.2.1 (fun v195 H195 locs hp hz hS => ?_)
                  obtain ⟨rfl, hI1, hf, hR, z195_0, z195_1⟩ := hp
                  have hB := th_B_c hB hI1 hS hf (by decide)
                  have mm47 := (th_F_o hf h0 ro_46 (j := 39) (by decide) (by decide)).trans mm40
                  have mm48 := (th_F_o hf h0 ro_46 (j := 40) (by decide) (by decide)).trans mm41
                  have mm49 := (th_F_o hf h0 ro_46 (j := 2) (by decide) (by decide)).trans mm42
                  have mm50 := (th_F_o hf h0 ro_46 (j := 35) (by decide) (by decide)).trans mm43
                  have mm51 := (th_F_o hf h0 ro_46 (j := 36) (by decide) (by decide)).trans mm44
                  have vv_H195_2 : mo_v G H195 a0 2 = mo_v G H177 a0 2 := mo_v_F (r := 48) hB.1 hf h0 rfl ro_48 (by decide) (by decide)
                  have vv_H195_35 : mo_v G H195 a0 35 = mo_v G H177 a0 35 := mo_v_F (r := 64) hB.1 hf h0 rfl ro_64 (by decide) (by decide)
                  have vv_H195_36 : mo_v G H195 a0 36 = mo_v G H177 a0 36 := mo_v_F (r := 65) hB.1 hf h0 rfl ro_65 (by decide) (by decide)
                  replace hF := hF.trans (congrArg (dv_k (f_X12_goesOn_59b d (dv_pre (fun _ _ _ _ _ => dv_z) f_X12_goesOn d))) (dv_bn2 (z195_1)))
                  refine W.eq (g2 := F0 m 198 ls []) rfl ?_
                  refine tr_iinc (fun x52 => [(7, .int x52), (6, .int x6), (5, .int x5), (4, .int x4), (0, .ref a0), (1, .int p1), (2, .int p2), (3, .int p3)]) hx hb dX12_goesOn_198 hl (k := 7) rfl (Eq.refl _) tk_1 (by omega) (by omega) (by decide) (fun _ => rfl) (fun x52 ls ex52 hl => ?_)
                  replace hF := hF.trans (congrArg (dv_k (f_X12_goesOn_59b d (dv_pre (fun _ _ _ _ _ => dv_z) f_X12_goesOn d))) (dv_bn (ex52.symm)))
                  refine lv_goto (tgt := 59) hx hb dX12_goesOn_201 (by decide) ?_
                  replace hF := hF.trans (dv_kl)
                  exact ih59 H195 locs ls x52 hB hR (lv_sub hl [1, 2, 3, 4, 5, 6, 7, 0] rfl) hF (by omega) (by omega) (mo_rw_le (mo_rw_F z177_0 hB.1 h0 hf (by decide)) (by omega)) (by omega)
                · replace hF := hF.trans (congrArg (dv_k (f_X12_goesOn_59b d (dv_pre (fun _ _ _ _ _ => dv_z) f_X12_goesOn d))) (if_neg (not_not_intro c115)))
                  refine lv_goto (tgt := 198) hx hb dX12_goesOn_118 (by decide) ?_
                  refine tr_iinc (fun x53 => [(7, .int x53), (6, .int x6), (5, .int x5), (4, .int x4), (0, .ref a0), (1, .int p1), (2, .int p2), (3, .int p3)]) hx hb dX12_goesOn_198 hl (k := 7) rfl (Eq.refl _) tk_1 (by omega) (by omega) (by decide) (fun _ => rfl) (fun x53 ls ex53 hl => ?_)
                  replace hF := hF.trans (congrArg (dv_k (f_X12_goesOn_59b d (dv_pre (fun _ _ _ _ _ => dv_z) f_X12_goesOn d))) (dv_bn (ex53.symm)))
                  refine lv_goto (tgt := 59) hx hb dX12_goesOn_201 (by decide) ?_
                  replace hF := hF.trans (dv_kl)
                  exact ih59 H59 locs ls x53 hB hR (lv_sub hl [1, 2, 3, 4, 5, 6, 7, 0] rfl) hF (by omega) (by omega) g59_2 (by omega)
      exact lp59 ((2147483648 : Int) - (0)).toNat H0 locs ls 0 hB hR (lv_sub hl [1, 2, 3, 4, 5, 6, 7, 0] rfl) (by rw [tk_0]; exact hF) (by decide) (by decide) k2 (by have w0 := tk_0; omega)
    · replace hF := hF.trans (if_neg (not_not_intro c32))
      refine lv_aload_n hx hb dX12_goesOn_35 rfl (lv_at hl 1 rfl) ?_
      refine lv_iload_n hx hb dX12_goesOn_36 rfl (lv_at hl 3 rfl) ?_
      refine lv_iload_n hx hb dX12_goesOn_37 rfl (lv_at hl 4 rfl) ?_
      refine th_call (th_runV (As := [.int p2, .int p3]) (rest := []) hC mf_X12_fills km_X12_427 im_X12_fills se_X12_fills (c_X12_fills l G Γ H0 hB.1 hR hU a0 h0 p2 (by omega) (by omega) p3 k2) rfl rfl ⟨by dsimp only; omega, by dsimp only; omega⟩ hB.1 h0 ro_46 rfl rfl hl.1 rfl (Nat.le_of_ble_eq_true rfl) dX12_goesOn_38 ⟨Nat.le_refl _, Nat.le_refl _⟩) hB.2.1 (fun v38 H38 locs hp hz hS => ?_)
      obtain ⟨rfl, hI1, hf, hR, z38_0⟩ := hp
      have hB := th_B_c hB hI1 hS hf (by decide)
      have mm54 := (th_F_o hf h0 ro_46 (j := 39) (by decide) (by decide)).trans mx2
      have mm55 := (th_F_o hf h0 ro_46 (j := 40) (by decide) (by decide)).trans mx3
      have vv_H38_2 : mo_v G H38 a0 2 = mo_v G H0 a0 2 := mo_v_F (r := 48) hB.1 hf h0 rfl ro_48 (by decide) (by decide)
      have vv_H38_35 : mo_v G H38 a0 35 = mo_v G H0 a0 35 := mo_v_F (r := 64) hB.1 hf h0 rfl ro_64 (by decide) (by decide)
      have vv_H38_36 : mo_v G H38 a0 36 = mo_v G H0 a0 36 := mo_v_F (r := 65) hB.1 hf h0 rfl ro_65 (by decide) (by decide)
      replace hF := hF.trans (dv_bn2 (z38_0))
      refine W.eq (g2 := F0 m 41 ls []) rfl ?_
      exact th_vret hC hH hr hlocks hB.2.1 ⟨rfl, hB.1, hB.2.2, hR, (mo_rw_F k2 hB.1 h0 hf (by decide)), (hF0.symm.trans hF)⟩ dX12_goesOn_41
  refine tr_if_eq (tgt := 15) hx hb dX12_goesOn_4 (by decide) (Eq.refl _) (fun c4 => ?_) (fun c4 => ?_)
  · replace hF := hF.trans (if_pos c4)
    exact jn15 [] ls hB (lv_sub hl [0, 1, 2, 3] rfl) hF
  · replace hF := hF.trans (if_neg c4)
    refine lv_aload_n hx hb dX12_goesOn_7 rfl (lv_at hl 0 rfl) ?_
    refine th_getI (j := 41) hC cf_X12 hB.1 h0 ro_46 rfl rfl kf_X12_406 dX12_goesOn_8 (fun x56 mx56 lx56 ux56 => ?_)
    replace hF := hF.trans (dv_bn (dv_getI h0 ro_46 (j := 41) rfl mx56 (by decide)))
    refine tr_if_le (tgt := 15) hx hb dX12_goesOn_11 (by decide) (Eq.refl _) (fun c11 => ?_) (fun c11 => ?_)
    · replace hF := hF.trans (if_pos c11)
      exact jn15 [] ls hB (lv_sub hl [0, 1, 2, 3] rfl) hF
    · replace hF := hF.trans (if_neg (Int.not_le.mpr c11))
      exact th_vret hC hH hr hlocks hB.2.1 ⟨rfl, hB.1, hB.2.2, hR, k2, (hF0.symm.trans hF)⟩ dX12_goesOn_14
theorem c_X12_goesOn_d (d : Nat) : s_X12_goesOn d := by
  induction d with
  | zero => exact c_X12_goesOn_s 0 (fun d' h => absurd h (by omega))
  | succ d ih => exact c_X12_goesOn_s (d + 1) (fun d' h => by cases h; exact ih)
theorem c_X12_goesOn (l : Launch) (G : th_G) (Γ : th_Ga) (H0 : Heap) (hI : th_I G Γ H0) (hR : th_RC G Γ H0) (hU : dv_U Γ) (a0 : Nat) (h0 : Γ a0 = (46, 0)) (p1 : Int32) (p2 : Int32) (f2 : 0 ≤ p2.toInt) (g2 : p2.toInt ≤ 9) (p3 : Int32) (k1 : ((mo_pc p1 : Nat) : Int) + p2.toInt ≤ 9) (k2 : mo_rw G H0 a0 p2.toInt) : Met l yX12_goesOn (.code yX12_goesOn cX12_goesOn 8 (none) :: th_tb) ({ frames := 15, cells := 0, slots := 0, locals := 386 } : Room) (th_P [.ref a0, .int p1, .int p2, .int p3] G H0) (th_Q (fun (v : Option Value) (H1 : Heap) => v = none ∧ th_I G Γ H1 ∧ th_F G Γ [(46, 41), (46, 42), (46, 43), (67, 0), (66, 0), (59, 0), (64, 0), (65, 0)] H0 H1 ∧ th_RC G Γ H1 ∧ (mo_rw G H1 a0 p2.toInt) ∧ (f_X12_goesOn 9 (dv G Γ H0) (a0 : Int) p1.toInt p2.toInt p3.toInt = (dv G Γ H1, 0))) G) 0 0 (fun q => G.2.2 ≤ q) := c_X12_goesOn_d 9 l G Γ H0 hI hR hU a0 h0 p1 p2 f2 g2 p3 k1 k2 (by omega)

set_option maxHeartbeats 4000000 in
set_option maxRecDepth 100000 in
theorem c_X12_goesThrough (l : Launch) (G : th_G) (Γ : th_Ga) (H0 : Heap) (hI : th_I G Γ H0) (hR : th_RC G Γ H0) (hU : dv_U Γ) (a0 : Nat) (h0 : Γ a0 = (46, 0)) (p1 : Int32) (p2 : Int32) (f2 : 0 ≤ p2.toInt) (g2 : p2.toInt ≤ 12) (p3 : Int32) (f3 : 0 ≤ p3.toInt) (g3 : p3.toInt ≤ 12) : Met l yX12_goesThrough (.code yX12_goesThrough cX12_goesThrough 4 (none) :: th_tb) ({ frames := 16, cells := 0, slots := 0, locals := 413 } : Room) (th_P [.ref a0, .int p1, .int p2, .int p3] G H0) (th_Q (fun (v : Option Value) (H1 : Heap) => v = none ∧ th_I G Γ H1 ∧ th_F G Γ [(46, 41), (46, 42), (46, 43), (67, 0), (66, 0), (59, 0), (64, 0), (65, 0), (46, 39), (46, 40)] H0 H1 ∧ th_RC G Γ H1 ∧ (f_X12_goesThrough (dv G Γ H0) (a0 : Int) p1.toInt p2.toInt p3.toInt = (dv G Γ H1, 0))) G) 0 0 (fun q => G.2.2 ≤ q) := by
  refine th_met RX12 (by decide) rfl (Nat.le_of_ble_eq_true rfl) ?_
  intro p e s m below meth c hC hH hr hlocks hnm ls hl
  have hx := hC.1
  have hb := hC.2.1
  have hB : th_B G Γ Γ [(46, 41), (46, 42), (46, 43), (67, 0), (66, 0), (59, 0), (64, 0), (65, 0), (46, 39), (46, 40)] H0 H0 [] := ⟨hI, va_S.rf, th_F_rf⟩
  have hl : lv_has ls 4 [(0, .ref a0), (1, .int p1), (2, .int p2), (3, .int p3)] := hl
  have lp1 := ti_lo p1; have up1 := ti_hi p1
  have lp2 := ti_lo p2; have up2 := ti_hi p2
  have lp3 := ti_lo p3; have up3 := ti_hi p3
  obtain ⟨F, hF0⟩ : ∃ F, F = f_X12_goesThrough (dv G Γ H0) ((a0 : Int)) (p1.toInt) (p2.toInt) (p3.toInt) := ⟨_, rfl⟩
  have hF := hF0.trans (f_X12_goesThrough.eq_1 (dv G Γ H0) ((a0 : Int)) (p1.toInt) (p2.toInt) (p3.toInt))
  refine lv_aload_n hx hb dX12_goesThrough_0 rfl (lv_at hl 0 rfl) ?_
  refine lv_iload_n hx hb dX12_goesThrough_1 rfl (lv_at hl 2 rfl) ?_
  refine th_put hC cf_X12 hB h0 (Or.inl h0) ro_46 rfl (j := 39) rfl (th_sI (by omega) (by omega)) (by decide) rfl rfl rfl kf_X12_421 dX12_goesThrough_2 (fun H2 locs hB hf hst2 => ?_)
  have hR := th_RC_F hB.1 hR hf (th_T_s h0 ro_46 hst2) (by decide)
  replace hF := hF.trans (dv_bn (dv_putI hB.1 h0 ro_46 (j := 39) rfl (th_apart hC cf_X12) hst2 (Eq.refl _) (by decide)))
  refine lv_aload_n hx hb dX12_goesThrough_5 rfl (lv_at hl 0 rfl) ?_
  refine lv_iload_n hx hb dX12_goesThrough_6 rfl (lv_at hl 3 rfl) ?_
  refine th_put hC cf_X12 hB h0 (Or.inl h0) ro_46 rfl (j := 40) rfl (th_sI (by omega) (by omega)) (by decide) rfl rfl rfl kf_X12_424 dX12_goesThrough_7 (fun H7 locs hB hf hst7 => ?_)
  have hR := th_RC_F hB.1 hR hf (th_T_s h0 ro_46 hst7) (by decide)
  replace hF := hF.trans (dv_bn (dv_putI hB.1 h0 ro_46 (j := 40) rfl (th_apart hC cf_X12) hst7 (Eq.refl _) (by decide)))
  refine lv_aload_n hx hb dX12_goesThrough_10 rfl (lv_at hl 0 rfl) ?_
  refine lv_iconst (v := 0) hx hb dX12_goesThrough_11 (by decide) ?_
  refine th_put hC cf_X12 hB h0 (Or.inl h0) ro_46 rfl (j := 41) rfl th_sIa (by decide) rfl rfl rfl kf_X12_406 dX12_goesThrough_12 (fun H12 locs hB hf hst12 => ?_)
  have hR := th_RC_F hB.1 hR hf (th_T_s h0 ro_46 hst12) (by decide)
  replace hF := hF.trans (dv_bn (dv_putI hB.1 h0 ro_46 (j := 41) rfl (th_apart hC cf_X12) hst12 tk_0 (by decide)))
  refine lv_aload_n hx hb dX12_goesThrough_15 rfl (lv_at hl 0 rfl) ?_
  refine lv_iconst (v := 0) hx hb dX12_goesThrough_16 (by decide) ?_
  refine th_put hC cf_X12 hB h0 (Or.inl h0) ro_46 rfl (j := 42) rfl (th_sI (by decide) (by decide)) (by decide) rfl rfl rfl kf_X12_415 dX12_goesThrough_17 (fun H17 locs hB hf hst17 => ?_)
  have hR := th_RC_F hB.1 hR hf (th_T_s h0 ro_46 hst17) (by decide)
  replace hF := hF.trans (dv_bn (dv_putI hB.1 h0 ro_46 (j := 42) rfl (th_apart hC cf_X12) hst17 tk_0 (by decide)))
  refine lv_aload_n hx hb dX12_goesThrough_20 rfl (lv_at hl 0 rfl) ?_
  refine lv_ldc (v := 1000000) hx hb hC.2.2.2.1 (hC.2.2.2.2.1 _ kw_1623) dX12_goesThrough_21 ?_
  refine th_put hC cf_X12 hB h0 (Or.inl h0) ro_46 rfl (j := 43) rfl th_sIa (by decide) rfl rfl rfl kf_X12_409 dX12_goesThrough_23 (fun H23 locs hB hf hst23 => ?_)
  have hR := th_RC_F hB.1 hR hf (th_T_s h0 ro_46 hst23) (by decide)
  replace hF := hF.trans (dv_bn (dv_putI hB.1 h0 ro_46 (j := 43) rfl (th_apart hC cf_X12) hst23 tk_1000000 (by decide)))
  refine lv_aload_n hx hb dX12_goesThrough_26 rfl (lv_at hl 0 rfl) ?_
  refine lv_iload_n hx hb dX12_goesThrough_27 rfl (lv_at hl 1 rfl) ?_
  refine lv_iconst (v := 0) hx hb dX12_goesThrough_28 (by decide) ?_
  refine lv_iconst (v := 0) hx hb dX12_goesThrough_29 (by decide) ?_
  refine th_call (th_runV (As := [.int p1, .int 0, .int 0]) (rest := []) hC mf_X12_goesOn km_X12_433 im_X12_goesOn se_X12_goesOn (c_X12_goesOn l G Γ H23 hB.1 hR hU a0 h0 p1 0 (by decide) (by decide) 0 (by have w0 := tk_0; have w1 := mo_pc9 p1; omega) (mo_rw_0 (by decide))) rfl rfl ⟨Nat.le_of_ble_eq_true rfl, Nat.le_of_ble_eq_true rfl⟩ hB.1 h0 ro_46 rfl rfl hl.1 rfl (Nat.le_of_ble_eq_true rfl) dX12_goesThrough_30 ⟨Nat.le_refl _, Nat.le_refl _⟩) hB.2.1 (fun v30 H30 locs hp hz hS => ?_)
  obtain ⟨rfl, hI1, hf, hR, z30_0, z30_1⟩ := hp
  have hB := th_B_c hB hI1 hS hf (by decide)
  have zf30 := z30_1
  rw [tk_0] at zf30
  replace hF := hF.trans (dv_bn2 (zf30))
  refine W.eq (g2 := F0 m 33 ls []) rfl ?_
  exact th_vret hC hH hr hlocks hB.2.1 ⟨rfl, hB.1, hB.2.2, hR, (hF0.symm.trans hF)⟩ dX12_goesThrough_33

set_option maxHeartbeats 4000000 in
set_option maxRecDepth 100000 in
theorem c_X12_fillsNow (l : Launch) (G : th_G) (Γ : th_Ga) (H0 : Heap) (hI : th_I G Γ H0) (hU : dv_U Γ) (a0 : Nat) (h0 : Γ a0 = (46, 0)) (hR : th_RK a0 G Γ H0) (p1 : Int32) (f1 : 0 ≤ p1.toInt) (g1 : p1.toInt ≤ 1) : Met l yX12_fillsNow (.code yX12_fillsNow cX12_fillsNow 3 (none) :: th_tb) ({ frames := 53, cells := 0, slots := 0, locals := 1675 } : Room) (th_P [.ref a0, .int p1] G H0) (th_Q (fun (v : Option Value) (H1 : Heap) => v = none ∧ th_I G Γ H1 ∧ th_F G Γ [(46, 41), (46, 42), (46, 43), (67, 0), (66, 0), (59, 0), (64, 0), (65, 0), (46, 39), (46, 40), (63, 0), (46, 44), (46, 45), (46, 22), (46, 24), (58, 0), (46, 23), (46, 25)] H0 H1 ∧ th_RK a0 G Γ H1 ∧ (f_X12_fillsNow (dv G Γ H0) (a0 : Int) p1.toInt = (dv G Γ H1, 0))) G) 0 0 (fun q => G.2.2 ≤ q) := by
  refine th_met RX12 (by decide) rfl (Nat.le_of_ble_eq_true rfl) ?_
  intro p e s m below meth c hC hH hr hlocks hnm ls hl
  have hx := hC.1
  have hb := hC.2.1
  have hB : th_B G Γ Γ [(46, 41), (46, 42), (46, 43), (67, 0), (66, 0), (59, 0), (64, 0), (65, 0), (46, 39), (46, 40), (63, 0), (46, 44), (46, 45), (46, 22), (46, 24), (58, 0), (46, 23), (46, 25)] H0 H0 [] := ⟨hI, va_S.rf, th_F_rf⟩
  have hl : lv_has ls 3 [(0, .ref a0), (1, .int p1)] := hl
  have lp1 := ti_lo p1; have up1 := ti_hi p1
  obtain ⟨F, hF0⟩ : ∃ F, F = f_X12_fillsNow (dv G Γ H0) ((a0 : Int)) (p1.toInt) := ⟨_, rfl⟩
  have hF := hF0.trans (f_X12_fillsNow.eq_1 (dv G Γ H0) ((a0 : Int)) (p1.toInt))
  refine lv_aload_n hx hb dX12_fillsNow_0 rfl (lv_at hl 0 rfl) ?_
  refine th_call (th_runV (As := []) (rest := []) hC mf_X12_rolledWhole km_X12_436 im_X12_rolledWhole se_X12_rolledWhole (c_X12_rolledWhole l G Γ H0 hB.1 hU a0 h0) rfl rfl ⟨Nat.le_of_ble_eq_true rfl, Nat.le_of_ble_eq_true rfl⟩ hB.1 h0 ro_46 rfl rfl hl.1 rfl (Nat.le_of_ble_eq_true rfl) dX12_fillsNow_1 ⟨Nat.le_refl _, Nat.le_refl _⟩) hB.2.1 (fun v1 H1 locs hp hz hS => ?_)
  obtain ⟨x1, rfl, q1_0, rfl⟩ := hp
  have hB := th_B_s hB hS
  replace hF := hF.trans (dv_bn2 (q1_0))
  refine W.eq (g2 := F0 m 4 ls [.int x1]) rfl ?_
  refine lv_istore_n (lv' := [(2, .int x1), (0, .ref a0), (1, .int p1)]) hx hb dX12_fillsNow_4 rfl hl (by decide) rfl (fun ls hl => ?_)
  refine lv_aload_n hx hb dX12_fillsNow_5 rfl (lv_at hl 1 rfl) ?_
  refine lv_iload_n hx hb dX12_fillsNow_6 rfl (lv_at hl 0 rfl) ?_
  refine th_call (th_runV (As := [.int x1]) (rest := []) hC mf_X12_laysPrices km_X12_439 im_X12_laysPrices se_X12_laysPrices (c_X12_laysPrices l G Γ H0 hB.1 hU a0 h0 (th_KE hR) x1) rfl rfl ⟨Nat.le_of_ble_eq_true rfl, Nat.le_of_ble_eq_true rfl⟩ hB.1 h0 ro_46 rfl rfl hl.1 rfl (Nat.le_of_ble_eq_true rfl) dX12_fillsNow_7 ⟨Nat.le_refl _, Nat.le_refl _⟩) hB.2.1 (fun v7 H7 locs hp hz hS => ?_)
  have hRD := hR
  obtain ⟨rfl, hI1, hf, hR, z7_0⟩ := hp
  have hR := th_RK_c hR.1 hRD hI1 h0 hf (by decide)
  have hB := th_B_c hB hI1 hS hf (by decide)
  replace hF := hF.trans (dv_bn2 (z7_0))
  refine W.eq (g2 := F0 m 10 ls []) rfl ?_
  refine lv_aload_n hx hb dX12_fillsNow_10 rfl (lv_at hl 1 rfl) ?_
  refine th_call (th_runV (As := []) (rest := []) hC mf_X12_laysCovered km_X12_351 im_X12_laysCovered se_X12_laysCovered (c_X12_laysCovered l G Γ H7 hB.1 hU a0 h0 hR) rfl rfl ⟨Nat.le_of_ble_eq_true rfl, Nat.le_of_ble_eq_true rfl⟩ hB.1 h0 ro_46 rfl rfl hl.1 rfl (Nat.le_of_ble_eq_true rfl) dX12_fillsNow_11 ⟨Nat.le_refl _, Nat.le_refl _⟩) hB.2.1 (fun v11 H11 locs hp hz hS => ?_)
  obtain ⟨rfl, hI1, hf, hR, z11_0, z11_1⟩ := hp
  have hB := th_B_c hB hI1 hS hf (by decide)
  replace hF := hF.trans (dv_bn2 (z11_1))
  refine W.eq (g2 := F0 m 14 ls []) rfl ?_
  refine lv_aload_n hx hb dX12_fillsNow_14 rfl (lv_at hl 1 rfl) ?_
  refine lv_iload_n hx hb dX12_fillsNow_15 rfl (lv_at hl 2 rfl) ?_
  refine th_put hC cf_X12 hB h0 (Or.inl h0) ro_46 rfl (j := 44) rfl (th_sI (by omega) (by omega)) (by decide) rfl (th_nb (by omega) (by omega)) (th_fb (by omega) (by omega)) kf_X12_400 dX12_fillsNow_16 (fun H16 locs hB hf hst16 => ?_)
  have hR := th_RK_F hB.1 hR h0 hf (th_T_s h0 ro_46 hst16) (by decide)
  replace hF := hF.trans (dv_bn (dv_putI hB.1 h0 ro_46 (j := 44) rfl (th_apart hC cf_X12) hst16 (Eq.refl _) (by decide)))
  refine lv_aload_n hx hb dX12_fillsNow_19 rfl (lv_at hl 1 rfl) ?_
  refine lv_iconst (v := 0) hx hb dX12_fillsNow_20 (by decide) ?_
  refine th_put hC cf_X12 hB h0 (Or.inl h0) ro_46 rfl (j := 45) rfl (th_sI (by decide) (by decide)) (by decide) rfl narrow_b0 rfl kf_X12_418 dX12_fillsNow_21 (fun H21 locs hB hf hst21 => ?_)
  have hR := th_RK_F hB.1 hR h0 hf (th_T_s h0 ro_46 hst21) (by decide)
  replace hF := hF.trans (dv_bn (dv_putI hB.1 h0 ro_46 (j := 45) rfl (th_apart hC cf_X12) hst21 tk_0 (by decide)))
  refine lv_aload_n hx hb dX12_fillsNow_24 rfl (lv_at hl 1 rfl) ?_
  refine lv_iload_n hx hb dX12_fillsNow_25 rfl (lv_at hl 0 rfl) ?_
  refine lv_aload_n hx hb dX12_fillsNow_26 rfl (lv_at hl 1 rfl) ?_
  refine th_getO (j := 2) (r2 := 48) hC cf_X12 hB.1 h0 ro_46 rfl rfl kf_X12_28 dX12_fillsNow_27 (fun b2 mb2 hb2 => ?_)
  have sb2 := (th_F_o hB.2.2 h0 ro_46 (j := 2) (by decide) (by decide)).symm.trans mb2
  refine lv_bipush (v := 67) hx hb dX12_fillsNow_30 (by decide) ?_
  refine th_ialdF hC hB.1 hb2 ro_48 rfl tk_67 (by omega) (by omega) (ek_hall (by omega) (by omega)) dX12_fillsNow_32 (fun x3 mx3 lx3 ux3 => ?_)
  replace hF := hF.trans (dv_bn (dv_aldI hB.1 hU hb2 ow_48 (z := 67) mx3 (by omega)))
  refine lv_aload_n hx hb dX12_fillsNow_33 rfl (lv_at hl 1 rfl) ?_
  refine th_getK hC cf_X12 hB.1 h0 ro_46 rfl (j := 2) (by decide) mb2 kf_X12_28 dX12_fillsNow_34 ?_
  refine lv_bipush (v := 68) hx hb dX12_fillsNow_37 (by decide) ?_
  refine th_ialdF hC hB.1 hb2 ro_48 rfl tk_68 (by omega) (by omega) (ek_hall (by omega) (by omega)) dX12_fillsNow_39 (fun x4 mx4 lx4 ux4 => ?_)
  replace hF := hF.trans (dv_bn (dv_aldI hB.1 hU hb2 ow_48 (z := 68) mx4 (by omega)))
  refine th_call (th_runV (As := [.int x1, .int x3, .int x4]) (rest := []) hC mf_X12_goesThrough km_X12_442 im_X12_goesThrough se_X12_goesThrough (c_X12_goesThrough l G Γ H21 hB.1 hR.1 hU a0 h0 x1 x3 (by omega) (by omega) x4 (by omega) (by omega)) rfl rfl ⟨Nat.le_of_ble_eq_true rfl, Nat.le_of_ble_eq_true rfl⟩ hB.1 h0 ro_46 rfl rfl hl.1 rfl (Nat.le_of_ble_eq_true rfl) dX12_fillsNow_40 ⟨Nat.le_refl _, Nat.le_refl _⟩) hB.2.1 (fun v40 H40 locs hp hz hS => ?_)
  have hRD := hR
  obtain ⟨rfl, hI1, hf, hR, z40_0⟩ := hp
  have hR := th_RK_c hR hRD hI1 h0 hf (by decide)
  have hB := th_B_c hB hI1 hS hf (by decide)
  have mm5 := (th_F_o hf h0 ro_46 (j := 2) (by decide) (by decide)).trans mb2
  replace hF := hF.trans (dv_bn2 (z40_0))
  refine W.eq (g2 := F0 m 43 ls []) rfl ?_
  exact th_vret hC hH hr hlocks hB.2.1 ⟨rfl, hB.1, hB.2.2, hR, (hF0.symm.trans hF)⟩ dX12_fillsNow_43

set_option maxHeartbeats 4000000 in
set_option maxRecDepth 100000 in
theorem c_X12_fill (l : Launch) (G : th_G) (Γ : th_Ga) (H0 : Heap) (hI : th_I G Γ H0) (hU : dv_U Γ) (a0 : Nat) (h0 : Γ a0 = (46, 0)) (hR : th_RK a0 G Γ H0) (p1 : Int32) : Met l yX12_fill (.code yX12_fill cX12_fill 2 (some FieldType.int) :: th_tb) ({ frames := 54, cells := 0, slots := 0, locals := 1697 } : Room) (th_P [.ref a0, .int p1] G H0) (th_Q (fun (v : Option Value) (H1 : Heap) => ∃ r : Int32, v = some (.int r) ∧ th_I G Γ H1 ∧ th_F G Γ [(46, 41), (46, 42), (46, 43), (67, 0), (66, 0), (59, 0), (64, 0), (65, 0), (46, 39), (46, 40), (63, 0), (46, 44), (46, 45), (46, 22), (46, 24), (58, 0), (46, 23), (46, 25)] H0 H1 ∧ th_RK a0 G Γ H1 ∧ (f_X12_fill (dv G Γ H0) (a0 : Int) p1.toInt = (dv G Γ H1, r.toInt))) G) 0 0 (fun q => G.2.2 ≤ q) := by
  refine th_met RX12 (by decide) rfl (Nat.le_of_ble_eq_true rfl) ?_
  intro p e s m below meth c hC hH hr hlocks hnm ls hl
  have hx := hC.1
  have hb := hC.2.1
  have hB : th_B G Γ Γ [(46, 41), (46, 42), (46, 43), (67, 0), (66, 0), (59, 0), (64, 0), (65, 0), (46, 39), (46, 40), (63, 0), (46, 44), (46, 45), (46, 22), (46, 24), (58, 0), (46, 23), (46, 25)] H0 H0 [] := ⟨hI, va_S.rf, th_F_rf⟩
  have hl : lv_has ls 2 [(0, .ref a0), (1, .int p1)] := hl
  have lp1 := ti_lo p1; have up1 := ti_hi p1
  obtain ⟨F, hF0⟩ : ∃ F, F = f_X12_fill (dv G Γ H0) ((a0 : Int)) (p1.toInt) := ⟨_, rfl⟩
  have hF := hF0.trans (f_X12_fill.eq_1 (dv G Γ H0) ((a0 : Int)) (p1.toInt))
  refine lv_iload_n hx hb dX12_fill_0 rfl (lv_at hl 1 rfl) ?_
  refine lv_iconst (v := (-1)) hx hb dX12_fill_1 (by decide) ?_
  refine tr_icmp_ge (tgt := 7) hx hb dX12_fill_2 (by decide) (Eq.refl _) tk_m1 (fun c2 => ?_) (fun c2 => ?_)
  · replace hF := hF.trans (if_pos c2)
    refine lv_aload_n hx hb dX12_fill_7 rfl (lv_at hl 0 rfl) ?_
    refine lv_iconst (v := 0) hx hb dX12_fill_8 (by decide) ?_
    refine th_call (th_runV (As := [.int 0]) (rest := []) hC mf_X12_fillsNow km_X12_445 im_X12_fillsNow se_X12_fillsNow (c_X12_fillsNow l G Γ H0 hB.1 hU a0 h0 hR 0 (by decide) (by decide)) rfl rfl ⟨Nat.le_of_ble_eq_true rfl, Nat.le_of_ble_eq_true rfl⟩ hB.1 h0 ro_46 rfl rfl hl.1 rfl (Nat.le_of_ble_eq_true rfl) dX12_fill_9 ⟨Nat.le_refl _, Nat.le_refl _⟩) hB.2.1 (fun v9 H9 locs hp hz hS => ?_)
    obtain ⟨rfl, hI1, hf, hR, z9_0⟩ := hp
    have hB := th_B_c hB hI1 hS hf (by decide)
    have zf9 := z9_0
    rw [tk_0] at zf9
    replace hF := hF.trans (dv_bn2 (zf9))
    refine W.eq (g2 := F0 m 12 ls []) rfl ?_
    refine lv_aload_n hx hb dX12_fill_12 rfl (lv_at hl 0 rfl) ?_
    refine th_getI (j := 41) hC cf_X12 hB.1 h0 ro_46 rfl rfl kf_X12_406 dX12_fill_13 (fun x1 mx1 lx1 ux1 => ?_)
    replace hF := hF.trans (dv_bn (dv_getI h0 ro_46 (j := 41) rfl mx1 (by decide)))
    refine tr_if_ne (tgt := 21) hx hb dX12_fill_16 (by decide) (Eq.refl _) (fun c16 => ?_) (fun c16 => ?_)
    · replace hF := hF.trans (if_pos c16)
      refine lv_iload_n hx hb dX12_fill_21 rfl (lv_at hl 1 rfl) ?_
      refine lv_iconst (v := (-1)) hx hb dX12_fill_22 (by decide) ?_
      refine tr_icmp_ne (tgt := 33) hx hb dX12_fill_23 (by decide) (Eq.refl _) tk_m1 (fun c23 => ?_) (fun c23 => ?_)
      · replace hF := hF.trans (if_pos c23)
        refine lv_iload_n hx hb dX12_fill_33 rfl (lv_at hl 1 rfl) ?_
        refine lv_aload_n hx hb dX12_fill_34 rfl (lv_at hl 0 rfl) ?_
        refine th_getI (j := 42) hC cf_X12 hB.1 h0 ro_46 rfl rfl kf_X12_415 dX12_fill_35 (fun x2 mx2 lx2 ux2 => ?_)
        replace hF := hF.trans (dv_bn (dv_getI h0 ro_46 (j := 42) rfl mx2 (by decide)))
        refine tr_icmp_ge (tgt := 50) hx hb dX12_fill_38 (by decide) (Eq.refl _) (Eq.refl _) (fun c38 => ?_) (fun c38 => ?_)
        · replace hF := hF.trans (if_pos c38)
          refine lv_iconst (v := (-1)) hx hb dX12_fill_50 (by decide) ?_
          exact th_iret hC hH hr hlocks rfl hB.2.1 ⟨_, rfl, hB.1, hB.2.2, hR, (hF0.symm.trans (hF.trans (by rw [tk_m1])))⟩ dX12_fill_51
        · replace hF := hF.trans (if_neg (Int.not_le.mpr c38))
          refine lv_aload_n hx hb dX12_fill_41 rfl (lv_at hl 0 rfl) ?_
          refine th_getO (j := 37) (r2 := 66) hC cf_X12 hB.1 h0 ro_46 rfl rfl kf_X12_87 dX12_fill_42 (fun b3 mb3 hb3 => ?_)
          refine lv_iload_n hx hb dX12_fill_45 rfl (lv_at hl 1 rfl) ?_
          refine th_ialdF hC hB.1 hb3 ro_66 rfl (Eq.refl _) (by omega) (by omega) rfl dX12_fill_46 (fun x4 mx4 lx4 ux4 => ?_)
          replace hF := hF.trans (dv_bn (dv_aldI hB.1 hU hb3 ow_66 (z := p1.toInt) mx4 (by omega)))
          refine lv_goto (tgt := 51) hx hb dX12_fill_47 (by decide) ?_
          exact th_iret hC hH hr hlocks rfl hB.2.1 ⟨_, rfl, hB.1, hB.2.2, hR, (hF0.symm.trans hF)⟩ dX12_fill_51
      · replace hF := hF.trans (if_neg (not_not_intro c23))
        refine lv_aload_n hx hb dX12_fill_26 rfl (lv_at hl 0 rfl) ?_
        refine th_getI (j := 42) hC cf_X12 hB.1 h0 ro_46 rfl rfl kf_X12_415 dX12_fill_27 (fun x5 mx5 lx5 ux5 => ?_)
        replace hF := hF.trans (dv_bn (dv_getI h0 ro_46 (j := 42) rfl mx5 (by decide)))
        refine lv_goto (tgt := 51) hx hb dX12_fill_30 (by decide) ?_
        exact th_iret hC hH hr hlocks rfl hB.2.1 ⟨_, rfl, hB.1, hB.2.2, hR, (hF0.symm.trans hF)⟩ dX12_fill_51
    · replace hF := hF.trans (if_neg (not_not_intro c16))
      refine lv_iconst (v := (-1)) hx hb dX12_fill_19 (by decide) ?_
      exact th_iret hC hH hr hlocks rfl hB.2.1 ⟨_, rfl, hB.1, hB.2.2, hR, (hF0.symm.trans (hF.trans (by rw [tk_m1])))⟩ dX12_fill_20
  · replace hF := hF.trans (if_neg (Int.not_le.mpr c2))
    refine lv_iconst (v := (-1)) hx hb dX12_fill_5 (by decide) ?_
    exact th_iret hC hH hr hlocks rfl hB.2.1 ⟨_, rfl, hB.1, hB.2.2, hR, (hF0.symm.trans (hF.trans (by rw [tk_m1])))⟩ dX12_fill_6

set_option maxHeartbeats 4000000 in
set_option maxRecDepth 100000 in
theorem c_X12_ways (l : Launch) (G : th_G) (Γ : th_Ga) (H0 : Heap) (hI : th_I G Γ H0) (hU : dv_U Γ) (a0 : Nat) (h0 : Γ a0 = (46, 0)) (hR : th_RK a0 G Γ H0) : Met l yX12_ways (.code yX12_ways cX12_ways 1 (some FieldType.int) :: th_tb) ({ frames := 54, cells := 0, slots := 0, locals := 1697 } : Room) (th_P [.ref a0] G H0) (th_Q (fun (v : Option Value) (H1 : Heap) => ∃ r : Int32, v = some (.int r) ∧ th_I G Γ H1 ∧ th_F G Γ [(46, 41), (46, 42), (46, 43), (67, 0), (66, 0), (59, 0), (64, 0), (65, 0), (46, 39), (46, 40), (63, 0), (46, 44), (46, 45), (46, 22), (46, 24), (58, 0), (46, 23), (46, 25)] H0 H1 ∧ th_RK a0 G Γ H1 ∧ (f_X12_ways (dv G Γ H0) (a0 : Int) = (dv G Γ H1, r.toInt))) G) 0 0 (fun q => G.2.2 ≤ q) := by
  refine th_met RX12 (by decide) rfl (Nat.le_of_ble_eq_true rfl) ?_
  intro p e s m below meth c hC hH hr hlocks hnm ls hl
  have hx := hC.1
  have hb := hC.2.1
  have hB : th_B G Γ Γ [(46, 41), (46, 42), (46, 43), (67, 0), (66, 0), (59, 0), (64, 0), (65, 0), (46, 39), (46, 40), (63, 0), (46, 44), (46, 45), (46, 22), (46, 24), (58, 0), (46, 23), (46, 25)] H0 H0 [] := ⟨hI, va_S.rf, th_F_rf⟩
  have hl : lv_has ls 1 [(0, .ref a0)] := hl
  obtain ⟨F, hF0⟩ : ∃ F, F = f_X12_ways (dv G Γ H0) ((a0 : Int)) := ⟨_, rfl⟩
  have hF := hF0.trans (f_X12_ways.eq_1 (dv G Γ H0) ((a0 : Int)))
  refine lv_aload_n hx hb dX12_ways_0 rfl (lv_at hl 0 rfl) ?_
  refine lv_iconst (v := 0) hx hb dX12_ways_1 (by decide) ?_
  refine th_call (th_runV (As := [.int 0]) (rest := []) hC mf_X12_fillsNow km_X12_445 im_X12_fillsNow se_X12_fillsNow (c_X12_fillsNow l G Γ H0 hB.1 hU a0 h0 hR 0 (by decide) (by decide)) rfl rfl ⟨Nat.le_of_ble_eq_true rfl, Nat.le_of_ble_eq_true rfl⟩ hB.1 h0 ro_46 rfl rfl hl.1 rfl (Nat.le_of_ble_eq_true rfl) dX12_ways_2 ⟨Nat.le_refl _, Nat.le_refl _⟩) hB.2.1 (fun v2 H2 locs hp hz hS => ?_)
  obtain ⟨rfl, hI1, hf, hR, z2_0⟩ := hp
  have hB := th_B_c hB hI1 hS hf (by decide)
  have zf2 := z2_0
  rw [tk_0] at zf2
  replace hF := hF.trans (dv_bn2 (zf2))
  refine W.eq (g2 := F0 m 5 ls []) rfl ?_
  refine lv_aload_n hx hb dX12_ways_5 rfl (lv_at hl 0 rfl) ?_
  refine th_getI (j := 41) hC cf_X12 hB.1 h0 ro_46 rfl rfl kf_X12_406 dX12_ways_6 (fun x1 mx1 lx1 ux1 => ?_)
  replace hF := hF.trans (dv_bn (dv_getI h0 ro_46 (j := 41) rfl mx1 (by decide)))
  exact th_iret hC hH hr hlocks rfl hB.2.1 ⟨_, rfl, hB.1, hB.2.2, hR, (hF0.symm.trans hF)⟩ dX12_ways_9

set_option maxHeartbeats 4000000 in
set_option maxRecDepth 100000 in
theorem c_X12_cheapest (l : Launch) (G : th_G) (Γ : th_Ga) (H0 : Heap) (hI : th_I G Γ H0) (hU : dv_U Γ) (a0 : Nat) (h0 : Γ a0 = (46, 0)) (hR : th_RK a0 G Γ H0) : Met l yX12_cheapest (.code yX12_cheapest cX12_cheapest 1 (some FieldType.int) :: th_tb) ({ frames := 54, cells := 0, slots := 0, locals := 1697 } : Room) (th_P [.ref a0] G H0) (th_Q (fun (v : Option Value) (H1 : Heap) => ∃ r : Int32, v = some (.int r) ∧ th_I G Γ H1 ∧ th_F G Γ [(46, 41), (46, 42), (46, 43), (67, 0), (66, 0), (59, 0), (64, 0), (65, 0), (46, 39), (46, 40), (63, 0), (46, 44), (46, 45), (46, 22), (46, 24), (58, 0), (46, 23), (46, 25)] H0 H1 ∧ th_RK a0 G Γ H1 ∧ (f_X12_cheapest (dv G Γ H0) (a0 : Int) = (dv G Γ H1, r.toInt))) G) 0 0 (fun q => G.2.2 ≤ q) := by
  refine th_met RX12 (by decide) rfl (Nat.le_of_ble_eq_true rfl) ?_
  intro p e s m below meth c hC hH hr hlocks hnm ls hl
  have hx := hC.1
  have hb := hC.2.1
  have hB : th_B G Γ Γ [(46, 41), (46, 42), (46, 43), (67, 0), (66, 0), (59, 0), (64, 0), (65, 0), (46, 39), (46, 40), (63, 0), (46, 44), (46, 45), (46, 22), (46, 24), (58, 0), (46, 23), (46, 25)] H0 H0 [] := ⟨hI, va_S.rf, th_F_rf⟩
  have hl : lv_has ls 1 [(0, .ref a0)] := hl
  obtain ⟨F, hF0⟩ : ∃ F, F = f_X12_cheapest (dv G Γ H0) ((a0 : Int)) := ⟨_, rfl⟩
  have hF := hF0.trans (f_X12_cheapest.eq_1 (dv G Γ H0) ((a0 : Int)))
  refine lv_aload_n hx hb dX12_cheapest_0 rfl (lv_at hl 0 rfl) ?_
  refine lv_iconst (v := 0) hx hb dX12_cheapest_1 (by decide) ?_
  refine th_call (th_runV (As := [.int 0]) (rest := []) hC mf_X12_fillsNow km_X12_445 im_X12_fillsNow se_X12_fillsNow (c_X12_fillsNow l G Γ H0 hB.1 hU a0 h0 hR 0 (by decide) (by decide)) rfl rfl ⟨Nat.le_of_ble_eq_true rfl, Nat.le_of_ble_eq_true rfl⟩ hB.1 h0 ro_46 rfl rfl hl.1 rfl (Nat.le_of_ble_eq_true rfl) dX12_cheapest_2 ⟨Nat.le_refl _, Nat.le_refl _⟩) hB.2.1 (fun v2 H2 locs hp hz hS => ?_)
  obtain ⟨rfl, hI1, hf, hR, z2_0⟩ := hp
  have hB := th_B_c hB hI1 hS hf (by decide)
  have zf2 := z2_0
  rw [tk_0] at zf2
  replace hF := hF.trans (dv_bn2 (zf2))
  refine W.eq (g2 := F0 m 5 ls []) rfl ?_
  refine lv_aload_n hx hb dX12_cheapest_5 rfl (lv_at hl 0 rfl) ?_
  refine th_getI (j := 41) hC cf_X12 hB.1 h0 ro_46 rfl rfl kf_X12_406 dX12_cheapest_6 (fun x1 mx1 lx1 ux1 => ?_)
  replace hF := hF.trans (dv_bn (dv_getI h0 ro_46 (j := 41) rfl mx1 (by decide)))
  refine tr_if_ne (tgt := 16) hx hb dX12_cheapest_9 (by decide) (Eq.refl _) (fun c9 => ?_) (fun c9 => ?_)
  · replace hF := hF.trans (if_pos c9)
    refine lv_aload_n hx hb dX12_cheapest_16 rfl (lv_at hl 0 rfl) ?_
    refine th_getI (j := 43) hC cf_X12 hB.1 h0 ro_46 rfl rfl kf_X12_409 dX12_cheapest_17 (fun x2 mx2 lx2 ux2 => ?_)
    replace hF := hF.trans (dv_bn (dv_getI h0 ro_46 (j := 43) rfl mx2 (by decide)))
    exact th_iret hC hH hr hlocks rfl hB.2.1 ⟨_, rfl, hB.1, hB.2.2, hR, (hF0.symm.trans hF)⟩ dX12_cheapest_20
  · replace hF := hF.trans (if_neg (not_not_intro c9))
    refine lv_iconst (v := (-1)) hx hb dX12_cheapest_12 (by decide) ?_
    refine lv_goto (tgt := 20) hx hb dX12_cheapest_13 (by decide) ?_
    exact th_iret hC hH hr hlocks rfl hB.2.1 ⟨_, rfl, hB.1, hB.2.2, hR, (hF0.symm.trans (hF.trans (by rw [tk_m1])))⟩ dX12_cheapest_20

set_option maxHeartbeats 4000000 in
set_option maxRecDepth 100000 in
theorem c_X12_canFill (l : Launch) (G : th_G) (Γ : th_Ga) (H0 : Heap) (hI : th_I G Γ H0) (hR : th_RC G Γ H0) (hU : dv_U Γ) (a0 : Nat) (h0 : Γ a0 = (46, 0)) (p1 : Int32) (p2 : Int32) (f2 : 0 ≤ p2.toInt) (g2 : p2.toInt ≤ 12) (p3 : Int32) (f3 : 0 ≤ p3.toInt) (g3 : p3.toInt ≤ 12) : Met l yX12_canFill (.code yX12_canFill cX12_canFill 5 (some FieldType.boolean) :: th_tb) ({ frames := 17, cells := 0, slots := 0, locals := 436 } : Room) (th_P [.ref a0, .int p1, .int p2, .int p3] G H0) (th_Q (fun (v : Option Value) (H1 : Heap) => ∃ r : Int32, v = some (.int r) ∧ 0 ≤ r.toInt ∧ r.toInt ≤ 1 ∧ th_I G Γ H1 ∧ th_F G Γ [(46, 41), (46, 42), (46, 43), (67, 0), (66, 0), (59, 0), (64, 0), (65, 0), (46, 39), (46, 40)] H0 H1 ∧ th_RC G Γ H1 ∧ (f_X12_canFill (dv G Γ H0) (a0 : Int) p1.toInt p2.toInt p3.toInt = (dv G Γ H1, r.toInt))) G) 0 0 (fun q => G.2.2 ≤ q) := by
  refine th_met RX12 (by decide) rfl (Nat.le_of_ble_eq_true rfl) ?_
  intro p e s m below meth c hC hH hr hlocks hnm ls hl
  have hx := hC.1
  have hb := hC.2.1
  have hB : th_B G Γ Γ [(46, 41), (46, 42), (46, 43), (67, 0), (66, 0), (59, 0), (64, 0), (65, 0), (46, 39), (46, 40)] H0 H0 [] := ⟨hI, va_S.rf, th_F_rf⟩
  have hl : lv_has ls 5 [(0, .ref a0), (1, .int p1), (2, .int p2), (3, .int p3)] := hl
  have lp1 := ti_lo p1; have up1 := ti_hi p1
  have lp2 := ti_lo p2; have up2 := ti_hi p2
  have lp3 := ti_lo p3; have up3 := ti_hi p3
  obtain ⟨F, hF0⟩ : ∃ F, F = f_X12_canFill (dv G Γ H0) ((a0 : Int)) (p1.toInt) (p2.toInt) (p3.toInt) := ⟨_, rfl⟩
  have hF := hF0.trans (f_X12_canFill.eq_1 (dv G Γ H0) ((a0 : Int)) (p1.toInt) (p2.toInt) (p3.toInt))
  refine lv_iconst (v := 0) hx hb dX12_canFill_0 (by decide) ?_
  refine lv_istore (lv' := [(4, .int 0), (0, .ref a0), (1, .int p1), (2, .int p2), (3, .int p3)]) hx hb dX12_canFill_1 hl (by decide) rfl (fun ls hl => ?_)
  have lp3 : ∀ (n3 : Nat) (H3 : Heap) (locs : List Loc) (ls : Array Slot) (j3_4 : Int32), th_B G Γ Γ [(46, 41), (46, 42), (46, 43), (67, 0), (66, 0), (59, 0), (64, 0), (65, 0), (46, 39), (46, 40)] H0 H3 locs → th_RC G Γ H3 → lv_has ls 5 [(0, .ref a0), (1, .int p1), (2, .int p2), (3, .int p3), (4, .int j3_4)] → F = dv_lp f_X12_canFill_3b (dv G Γ H3, (a0 : Int), p1.toInt, p2.toInt, p3.toInt, j3_4.toInt) → 0 ≤ j3_4.toInt → j3_4.toInt ≤ 12 → (2147483648 : Int) - j3_4.toInt ≤ (n3 : Int) → W p l e ({ frames := 17, cells := 0, slots := 0, locals := 436 } : Room) s m ([.ref a0, .int p1, .int p2, .int p3] : List Value).toArray below meth c H3 locs 0 0 (MQ below (th_Q (fun (v : Option Value) (H1 : Heap) => ∃ r : Int32, v = some (.int r) ∧ 0 ≤ r.toInt ∧ r.toInt ≤ 1 ∧ th_I G Γ H1 ∧ th_F G Γ [(46, 41), (46, 42), (46, 43), (67, 0), (66, 0), (59, 0), (64, 0), (65, 0), (46, 39), (46, 40)] H0 H1 ∧ th_RC G Γ H1 ∧ (f_X12_canFill (dv G Γ H0) (a0 : Int) p1.toInt p2.toInt p3.toInt = (dv G Γ H1, r.toInt))) G) ([.ref a0, .int p1, .int p2, .int p3] : List Value).toArray s 0 0 (fun q => G.2.2 ≤ q)) (F0 m 3 ls []) := by
    intro n3
    induction n3 with
    | zero => intro H3 locs ls j3_4 hB hR hl hF g3_0 g3_1 hm3; exact absurd hm3 (by have := ti_hi j3_4; omega)
    | succ n3 ih3 =>
      intro H3 locs ls j3_4 hB hR hl hF g3_0 g3_1 hm3
      have lj3_4 := ti_lo j3_4; have uj3_4 := ti_hi j3_4
      have hm3 : (2147483648 : Int) - j3_4.toInt ≤ (n3 : Int) + 1 := by omega
      replace hF := hF.trans (dv_lp_eq)
      replace hF := hF.trans (congrArg (dv_k f_X12_canFill_3b) (f_X12_canFill_3c.eq_1 (dv G Γ H3) ((a0 : Int)) (p1.toInt) (p2.toInt) (p3.toInt) (j3_4.toInt)))
      refine lv_iload hx hb dX12_canFill_3 (lv_at hl 4 rfl) ?_
      refine lv_bipush (v := 12) hx hb dX12_canFill_5 (by decide) ?_
      refine tr_icmp_ge (tgt := 24) hx hb dX12_canFill_7 (by decide) (Eq.refl _) tk_12 (fun c7 => ?_) (fun c7 => ?_)
      · replace hF := hF.trans (congrArg (dv_k f_X12_canFill_3b) (if_pos c7))
        refine lv_aload_n hx hb dX12_canFill_24 rfl (lv_at hl 0 rfl) ?_
        refine lv_iload_n hx hb dX12_canFill_25 rfl (lv_at hl 1 rfl) ?_
        refine lv_iload_n hx hb dX12_canFill_26 rfl (lv_at hl 2 rfl) ?_
        refine lv_iload_n hx hb dX12_canFill_27 rfl (lv_at hl 3 rfl) ?_
        refine th_call (th_runV (As := [.int p1, .int p2, .int p3]) (rest := []) hC mf_X12_goesThrough km_X12_442 im_X12_goesThrough se_X12_goesThrough (c_X12_goesThrough l G Γ H3 hB.1 hR hU a0 h0 p1 p2 (by omega) (by omega) p3 (by omega) (by omega)) rfl rfl ⟨Nat.le_of_ble_eq_true rfl, Nat.le_of_ble_eq_true rfl⟩ hB.1 h0 ro_46 rfl rfl hl.1 rfl (Nat.le_of_ble_eq_true rfl) dX12_canFill_28 ⟨Nat.le_refl _, Nat.le_refl _⟩) hB.2.1 (fun v28 H28 locs hp hz hS => ?_)
        obtain ⟨rfl, hI1, hf, hR, z28_0⟩ := hp
        have hB := th_B_c hB hI1 hS hf (by decide)
        replace hF := hF.trans (congrArg (dv_k f_X12_canFill_3b) (dv_bn2 (z28_0)))
        refine W.eq (g2 := F0 m 31 ls []) rfl ?_
        refine lv_aload_n hx hb dX12_canFill_31 rfl (lv_at hl 0 rfl) ?_
        refine th_getI (j := 41) hC cf_X12 hB.1 h0 ro_46 rfl rfl kf_X12_406 dX12_canFill_32 (fun x1 mx1 lx1 ux1 => ?_)
        replace hF := hF.trans (congrArg (dv_k f_X12_canFill_3b) (dv_bn (dv_getI h0 ro_46 (j := 41) rfl mx1 (by decide))))
        refine tr_if_le (tgt := 42) hx hb dX12_canFill_35 (by decide) (Eq.refl _) (fun c35 => ?_) (fun c35 => ?_)
        · replace hF := hF.trans (congrArg (dv_k f_X12_canFill_3b) (if_pos c35))
          refine lv_iconst (v := 0) hx hb dX12_canFill_42 (by decide) ?_
          replace hF := hF.trans (dv_kr)
          exact th_iret hC hH hr hlocks narrow_b0 hB.2.1 ⟨_, rfl, by decide, by decide, hB.1, hB.2.2, hR, (hF0.symm.trans (hF.trans (by rw [tk_0])))⟩ dX12_canFill_43
        · replace hF := hF.trans (congrArg (dv_k f_X12_canFill_3b) (if_neg (Int.not_le.mpr c35)))
          refine lv_iconst (v := 1) hx hb dX12_canFill_38 (by decide) ?_
          refine lv_goto (tgt := 43) hx hb dX12_canFill_39 (by decide) ?_
          replace hF := hF.trans (dv_kr)
          exact th_iret hC hH hr hlocks narrow_b1 hB.2.1 ⟨_, rfl, by decide, by decide, hB.1, hB.2.2, hR, (hF0.symm.trans (hF.trans (by rw [tk_1])))⟩ dX12_canFill_43
      · replace hF := hF.trans (congrArg (dv_k f_X12_canFill_3b) (if_neg (Int.not_le.mpr c7)))
        refine lv_aload_n hx hb dX12_canFill_10 rfl (lv_at hl 0 rfl) ?_
        refine th_getO (j := 29) (r2 := 59) hC cf_X12 hB.1 h0 ro_46 rfl rfl kf_X12_66 dX12_canFill_11 (fun b2 mb2 hb2 => ?_)
        have sb2 := (th_F_o hB.2.2 h0 ro_46 (j := 29) (by decide) (by decide)).symm.trans mb2
        refine lv_iload hx hb dX12_canFill_14 (lv_at hl 4 rfl) ?_
        refine lv_iconst (v := 0) hx hb dX12_canFill_16 (by decide) ?_
        have hIo := hB.1
        refine th_iastF hC hB hb2 (Or.inl hb2) ro_59 rfl (by decide) (Eq.refl _) (by omega) (by omega) th_sIa dX12_canFill_17 (fun H17 locs hB hf17 hst17 => ?_)
        have hf := hf17
        have mm3 := (th_F_o hf h0 ro_46 (j := 29) (by decide) (by decide)).trans mb2
        have hR := th_RC_F hB.1 hR hf (th_T_s hb2 ro_59 hst17) (by decide)
        replace hF := hF.trans (congrArg (dv_k f_X12_canFill_3b) (dv_bn (dv_stoI hIo hB.1 hU hb2 ow_59 (i := j3_4.toInt) hst17 tk_0 (by omega))))
        refine tr_iinc (fun x4 => [(4, .int x4), (0, .ref a0), (1, .int p1), (2, .int p2), (3, .int p3)]) hx hb dX12_canFill_18 hl (k := 4) rfl (Eq.refl _) tk_1 (by omega) (by omega) (by decide) (fun _ => rfl) (fun x4 ls ex4 hl => ?_)
        replace hF := hF.trans (congrArg (dv_k f_X12_canFill_3b) (dv_bn (ex4.symm)))
        refine lv_goto (tgt := 3) hx hb dX12_canFill_21 (by decide) ?_
        replace hF := hF.trans (dv_kl)
        exact ih3 H17 locs ls x4 hB hR (lv_sub hl [1, 2, 3, 4, 0] rfl) hF (by omega) (by omega) (by omega)
  exact lp3 ((2147483648 : Int) - (0)).toNat H0 [] ls 0 hB hR (lv_sub hl [1, 2, 3, 4, 0] rfl) (by rw [tk_0]; exact hF) (by decide) (by decide) (by have w0 := tk_0; omega)

set_option maxHeartbeats 4000000 in
set_option maxRecDepth 100000 in
theorem c_X12_halls (l : Launch) (G : th_G) (Γ : th_Ga) (H0 : Heap) (hI : th_I G Γ H0) (hU : dv_U Γ) (a0 : Nat) (h0 : Γ a0 = (46, 0)) (hR : th_RK a0 G Γ H0) (p1 : Int32) : Met l yX12_halls (.code yX12_halls cX12_halls 7 (some FieldType.int) :: th_tb) ({ frames := 53, cells := 0, slots := 0, locals := 1675 } : Room) (th_P [.ref a0, .int p1] G H0) (th_Q (fun (v : Option Value) (H1 : Heap) => ∃ r : Int32, v = some (.int r) ∧ th_I G Γ H1 ∧ th_F G Γ [(46, 41), (46, 42), (46, 43), (67, 0), (66, 0), (59, 0), (64, 0), (65, 0), (46, 39), (46, 40), (63, 0), (46, 44), (46, 45), (46, 22), (46, 24), (58, 0), (46, 23), (46, 25)] H0 H1 ∧ th_RK a0 G Γ H1 ∧ (f_X12_halls (dv G Γ H0) (a0 : Int) p1.toInt = (dv G Γ H1, r.toInt))) G) 0 0 (fun q => G.2.2 ≤ q) := by
  refine th_met RX12 (by decide) rfl (Nat.le_of_ble_eq_true rfl) ?_
  intro p e s m below meth c hC hH hr hlocks hnm ls hl
  have hx := hC.1
  have hb := hC.2.1
  have hB : th_B G Γ Γ [(46, 41), (46, 42), (46, 43), (67, 0), (66, 0), (59, 0), (64, 0), (65, 0), (46, 39), (46, 40), (63, 0), (46, 44), (46, 45), (46, 22), (46, 24), (58, 0), (46, 23), (46, 25)] H0 H0 [] := ⟨hI, va_S.rf, th_F_rf⟩
  have hl : lv_has ls 7 [(0, .ref a0), (1, .int p1)] := hl
  have lp1 := ti_lo p1; have up1 := ti_hi p1
  obtain ⟨F, hF0⟩ : ∃ F, F = f_X12_halls (dv G Γ H0) ((a0 : Int)) (p1.toInt) := ⟨_, rfl⟩
  have hF := hF0.trans (f_X12_halls.eq_1 (dv G Γ H0) ((a0 : Int)) (p1.toInt))
  refine lv_iload_n hx hb dX12_halls_0 rfl (lv_at hl 1 rfl) ?_
  refine lv_iconst (v := (-1)) hx hb dX12_halls_1 (by decide) ?_
  refine tr_icmp_ge (tgt := 7) hx hb dX12_halls_2 (by decide) (Eq.refl _) tk_m1 (fun c2 => ?_) (fun c2 => ?_)
  · replace hF := hF.trans (if_pos c2)
    refine lv_iconst (v := 0) hx hb dX12_halls_7 (by decide) ?_
    refine lv_istore_n (lv' := [(2, .int 0), (0, .ref a0), (1, .int p1)]) hx hb dX12_halls_8 rfl hl (by decide) rfl (fun ls hl => ?_)
    refine lv_iconst (v := 0) hx hb dX12_halls_9 (by decide) ?_
    refine lv_istore_n (lv' := [(3, .int 0), (2, .int 0), (0, .ref a0), (1, .int p1)]) hx hb dX12_halls_10 rfl hl (by decide) rfl (fun ls hl => ?_)
    refine lv_iconst (v := 0) hx hb dX12_halls_11 (by decide) ?_
    refine lv_istore (lv' := [(4, .int 0), (3, .int 0), (2, .int 0), (0, .ref a0), (1, .int p1)]) hx hb dX12_halls_12 hl (by decide) rfl (fun ls hl => ?_)
    have lp14 : ∀ (n14 : Nat) (locs : List Loc) (ls : Array Slot) (j14_2 : Int32) (j14_3 : Int32) (j14_4 : Int32), th_B G Γ Γ [(46, 41), (46, 42), (46, 43), (67, 0), (66, 0), (59, 0), (64, 0), (65, 0), (46, 39), (46, 40), (63, 0), (46, 44), (46, 45), (46, 22), (46, 24), (58, 0), (46, 23), (46, 25)] H0 H0 locs → lv_has ls 7 [(0, .ref a0), (1, .int p1), (2, .int j14_2), (3, .int j14_3), (4, .int j14_4)] → F = dv_lp f_X12_halls_14b (dv G Γ H0, (a0 : Int), p1.toInt, j14_2.toInt, j14_3.toInt, j14_4.toInt) → 0 ≤ j14_3.toInt → j14_3.toInt ≤ 1296 → 0 ≤ j14_4.toInt → j14_4.toInt ≤ 9 → j14_3.toInt ≤ 144 * j14_4.toInt → (2147483648 : Int) - j14_4.toInt ≤ (n14 : Int) → W p l e ({ frames := 53, cells := 0, slots := 0, locals := 1675 } : Room) s m ([.ref a0, .int p1] : List Value).toArray below meth c H0 locs 0 0 (MQ below (th_Q (fun (v : Option Value) (H1 : Heap) => ∃ r : Int32, v = some (.int r) ∧ th_I G Γ H1 ∧ th_F G Γ [(46, 41), (46, 42), (46, 43), (67, 0), (66, 0), (59, 0), (64, 0), (65, 0), (46, 39), (46, 40), (63, 0), (46, 44), (46, 45), (46, 22), (46, 24), (58, 0), (46, 23), (46, 25)] H0 H1 ∧ th_RK a0 G Γ H1 ∧ (f_X12_halls (dv G Γ H0) (a0 : Int) p1.toInt = (dv G Γ H1, r.toInt))) G) ([.ref a0, .int p1] : List Value).toArray s 0 0 (fun q => G.2.2 ≤ q)) (F0 m 14 ls []) := by
      intro n14
      induction n14 with
      | zero => intro locs ls j14_2 j14_3 j14_4 hB hl hF g14_0 g14_1 g14_2 g14_3 g14_4 hm14; exact absurd hm14 (by have := ti_hi j14_4; omega)
      | succ n14 ih14 =>
        intro locs ls j14_2 j14_3 j14_4 hB hl hF g14_0 g14_1 g14_2 g14_3 g14_4 hm14
        have lj14_2 := ti_lo j14_2; have uj14_2 := ti_hi j14_2
        have lj14_3 := ti_lo j14_3; have uj14_3 := ti_hi j14_3
        have lj14_4 := ti_lo j14_4; have uj14_4 := ti_hi j14_4
        have hm14 : (2147483648 : Int) - j14_4.toInt ≤ (n14 : Int) + 1 := by omega
        replace hF := hF.trans (dv_lp_eq)
        replace hF := hF.trans (congrArg (dv_k f_X12_halls_14b) (f_X12_halls_14c.eq_1 (dv G Γ H0) ((a0 : Int)) (p1.toInt) (j14_2.toInt) (j14_3.toInt) (j14_4.toInt)))
        refine lv_iload hx hb dX12_halls_14 (lv_at hl 4 rfl) ?_
        refine lv_aload_n hx hb dX12_halls_16 rfl (lv_at hl 0 rfl) ?_
        refine th_call (th_runV (As := []) (rest := [.int j14_4]) hC mf_X12_many km_X12_115 im_X12_many se_X12_many (c_X12_many l G Γ H0 hB.1 hU a0 h0) rfl rfl ⟨Nat.le_of_ble_eq_true rfl, Nat.le_of_ble_eq_true rfl⟩ hB.1 h0 ro_46 rfl rfl hl.1 rfl (Nat.le_of_ble_eq_true rfl) dX12_halls_17 ⟨Nat.le_refl _, Nat.le_refl _⟩) hB.2.1 (fun v17 H17 locs hp hz hS => ?_)
        obtain ⟨x1, rfl, lx1, ux1, q17_0, q17_1, rfl⟩ := hp
        have hB := th_B_s hB hS
        replace hF := hF.trans (congrArg (dv_k f_X12_halls_14b) (dv_bn2 (q17_1)))
        refine W.eq (g2 := F0 m 20 ls [.int x1, .int j14_4]) rfl ?_
        refine tr_icmp_ge (tgt := 72) hx hb dX12_halls_20 (by decide) (Eq.refl _) (Eq.refl _) (fun c20 => ?_) (fun c20 => ?_)
        · replace hF := hF.trans (congrArg (dv_k f_X12_halls_14b) (if_pos c20))
          refine lv_aload_n hx hb dX12_halls_72 rfl (lv_at hl 0 rfl) ?_
          refine lv_iload_n hx hb dX12_halls_73 rfl (lv_at hl 2 rfl) ?_
          refine th_call (th_runV (As := [.int j14_2]) (rest := []) hC mf_X12_laysPrices km_X12_439 im_X12_laysPrices se_X12_laysPrices (c_X12_laysPrices l G Γ H0 hB.1 hU a0 h0 (th_KE hR) j14_2) rfl rfl ⟨Nat.le_of_ble_eq_true rfl, Nat.le_of_ble_eq_true rfl⟩ hB.1 h0 ro_46 rfl rfl hl.1 rfl (Nat.le_of_ble_eq_true rfl) dX12_halls_74 ⟨Nat.le_refl _, Nat.le_refl _⟩) hB.2.1 (fun v74 H74 locs hp hz hS => ?_)
          have hRD := hR
          obtain ⟨rfl, hI1, hf, hR, z74_0⟩ := hp
          have hR := th_RK_c hR.1 hRD hI1 h0 hf (by decide)
          have hB := th_B_c hB hI1 hS hf (by decide)
          replace hF := hF.trans (congrArg (dv_k f_X12_halls_14b) (dv_bn2 (z74_0)))
          refine W.eq (g2 := F0 m 77 ls []) rfl ?_
          refine lv_aload_n hx hb dX12_halls_77 rfl (lv_at hl 0 rfl) ?_
          refine lv_iconst (v := 0) hx hb dX12_halls_78 (by decide) ?_
          refine th_put hC cf_X12 hB h0 (Or.inl h0) ro_46 rfl (j := 44) rfl (th_sI (by decide) (by decide)) (by decide) rfl narrow_b0 rfl kf_X12_400 dX12_halls_79 (fun H79 locs hB hf hst79 => ?_)
          have hR := th_RK_F hB.1 hR h0 hf (th_T_s h0 ro_46 hst79) (by decide)
          replace hF := hF.trans (congrArg (dv_k f_X12_halls_14b) (dv_bn (dv_putI hB.1 h0 ro_46 (j := 44) rfl (th_apart hC cf_X12) hst79 tk_0 (by decide))))
          refine lv_aload_n hx hb dX12_halls_82 rfl (lv_at hl 0 rfl) ?_
          refine lv_iconst (v := 1) hx hb dX12_halls_83 (by decide) ?_
          refine th_put hC cf_X12 hB h0 (Or.inl h0) ro_46 rfl (j := 45) rfl (th_sI (by decide) (by decide)) (by decide) rfl narrow_b1 rfl kf_X12_418 dX12_halls_84 (fun H84 locs hB hf hst84 => ?_)
          have hR := th_RK_F hB.1 hR h0 hf (th_T_s h0 ro_46 hst84) (by decide)
          replace hF := hF.trans (congrArg (dv_k f_X12_halls_14b) (dv_bn (dv_putI hB.1 h0 ro_46 (j := 45) rfl (th_apart hC cf_X12) hst84 tk_1 (by decide))))
          refine lv_iconst (v := 0) hx hb dX12_halls_87 (by decide) ?_
          refine lv_istore (lv' := [(4, .int 0), (0, .ref a0), (1, .int p1), (2, .int j14_2), (3, .int j14_3)]) hx hb dX12_halls_88 hl (by decide) rfl (fun ls hl => ?_)
          refine lv_iconst (v := 1) hx hb dX12_halls_90 (by decide) ?_
          refine lv_istore (lv' := [(5, .int 1), (4, .int 0), (0, .ref a0), (1, .int p1), (2, .int j14_2), (3, .int j14_3)]) hx hb dX12_halls_91 hl (by decide) rfl (fun ls hl => ?_)
          have lp93 : ∀ (n93 : Nat) (H93 : Heap) (locs : List Loc) (ls : Array Slot) (j93_4 : Int32) (j93_5 : Int32), th_B G Γ Γ [(46, 41), (46, 42), (46, 43), (67, 0), (66, 0), (59, 0), (64, 0), (65, 0), (46, 39), (46, 40), (63, 0), (46, 44), (46, 45), (46, 22), (46, 24), (58, 0), (46, 23), (46, 25)] H0 H93 locs → th_RK a0 G Γ H93 → lv_has ls 7 [(0, .ref a0), (1, .int p1), (2, .int j14_2), (3, .int j14_3), (4, .int j93_4), (5, .int j93_5)] → F = dv_k f_X12_halls_14b (dv_lp f_X12_halls_93b (dv G Γ H93, (a0 : Int), p1.toInt, j14_2.toInt, j14_3.toInt, j93_4.toInt, j93_5.toInt)) → 1 ≤ j93_5.toInt → j93_5.toInt ≤ 13 → (2147483648 : Int) - j93_5.toInt ≤ (n93 : Int) → W p l e ({ frames := 53, cells := 0, slots := 0, locals := 1675 } : Room) s m ([.ref a0, .int p1] : List Value).toArray below meth c H93 locs 0 0 (MQ below (th_Q (fun (v : Option Value) (H1 : Heap) => ∃ r : Int32, v = some (.int r) ∧ th_I G Γ H1 ∧ th_F G Γ [(46, 41), (46, 42), (46, 43), (67, 0), (66, 0), (59, 0), (64, 0), (65, 0), (46, 39), (46, 40), (63, 0), (46, 44), (46, 45), (46, 22), (46, 24), (58, 0), (46, 23), (46, 25)] H0 H1 ∧ th_RK a0 G Γ H1 ∧ (f_X12_halls (dv G Γ H0) (a0 : Int) p1.toInt = (dv G Γ H1, r.toInt))) G) ([.ref a0, .int p1] : List Value).toArray s 0 0 (fun q => G.2.2 ≤ q)) (F0 m 93 ls []) := by
            intro n93
            induction n93 with
            | zero => intro H93 locs ls j93_4 j93_5 hB hR hl hF g93_0 g93_1 hm93; exact absurd hm93 (by have := ti_hi j93_5; omega)
            | succ n93 ih93 =>
              intro H93 locs ls j93_4 j93_5 hB hR hl hF g93_0 g93_1 hm93
              have lj93_4 := ti_lo j93_4; have uj93_4 := ti_hi j93_4
              have lj93_5 := ti_lo j93_5; have uj93_5 := ti_hi j93_5
              have hm93 : (2147483648 : Int) - j93_5.toInt ≤ (n93 : Int) + 1 := by omega
              replace hF := hF.trans (congrArg (dv_k f_X12_halls_14b) (dv_lp_eq))
              replace hF := hF.trans (congrArg (dv_k f_X12_halls_14b) (congrArg (dv_k f_X12_halls_93b) (f_X12_halls_93c.eq_1 (dv G Γ H93) ((a0 : Int)) (p1.toInt) (j14_2.toInt) (j14_3.toInt) (j93_4.toInt) (j93_5.toInt))))
              refine lv_iload hx hb dX12_halls_93 (lv_at hl 5 rfl) ?_
              refine lv_bipush (v := 12) hx hb dX12_halls_95 (by decide) ?_
              refine tr_icmp_gt (tgt := 162) hx hb dX12_halls_97 (by decide) (Eq.refl _) tk_12 (fun c97 => ?_) (fun c97 => ?_)
              · replace hF := hF.trans (congrArg (dv_k f_X12_halls_14b) (congrArg (dv_k f_X12_halls_93b) (if_pos c97)))
                refine lv_iload_n hx hb dX12_halls_162 rfl (lv_at hl 1 rfl) ?_
                refine lv_iconst (v := (-1)) hx hb dX12_halls_163 (by decide) ?_
                refine tr_icmp_ne (tgt := 172) hx hb dX12_halls_164 (by decide) (Eq.refl _) tk_m1 (fun c164 => ?_) (fun c164 => ?_)
                · replace hF := hF.trans (congrArg (dv_k f_X12_halls_14b) (congrArg (dv_k f_X12_halls_93b) (if_pos c164)))
                  refine lv_iconst (v := (-1)) hx hb dX12_halls_172 (by decide) ?_
                  replace hF := hF.trans (congrArg (dv_k f_X12_halls_14b) (dv_kr))
                  replace hF := hF.trans (dv_kr)
                  exact th_iret hC hH hr hlocks rfl hB.2.1 ⟨_, rfl, hB.1, hB.2.2, hR, (hF0.symm.trans (hF.trans (by rw [tk_m1])))⟩ dX12_halls_173
                · replace hF := hF.trans (congrArg (dv_k f_X12_halls_14b) (congrArg (dv_k f_X12_halls_93b) (if_neg (not_not_intro c164))))
                  refine lv_iload hx hb dX12_halls_167 (lv_at hl 4 rfl) ?_
                  refine lv_goto (tgt := 173) hx hb dX12_halls_169 (by decide) ?_
                  replace hF := hF.trans (congrArg (dv_k f_X12_halls_14b) (dv_kr))
                  replace hF := hF.trans (dv_kr)
                  exact th_iret hC hH hr hlocks rfl hB.2.1 ⟨_, rfl, hB.1, hB.2.2, hR, (hF0.symm.trans hF)⟩ dX12_halls_173
              · replace hF := hF.trans (congrArg (dv_k f_X12_halls_14b) (congrArg (dv_k f_X12_halls_93b) (if_neg (Int.not_lt.mpr c97))))
                refine lv_iload_n hx hb dX12_halls_100 rfl (lv_at hl 3 rfl) ?_
                refine lv_iload hx hb dX12_halls_101 (lv_at hl 5 rfl) ?_
                refine tr_idiv hx hb dX12_halls_103 (Eq.refl _) (Eq.refl _) (by omega) (by omega) (fun x2 ex2 => ?_)
                have fx2 := ti_divb (a := j14_3.toInt) (b := j93_5.toInt) (by omega) (by omega)
                rw [← ex2] at fx2
                replace hF := hF.trans (congrArg (dv_k f_X12_halls_14b) (congrArg (dv_k f_X12_halls_93b) (dv_bn (ex2.symm))))
                refine lv_istore (lv' := [(6, .int x2), (0, .ref a0), (1, .int p1), (2, .int j14_2), (3, .int j14_3), (4, .int j93_4), (5, .int j93_5)]) hx hb dX12_halls_104 hl (by decide) rfl (fun ls hl => ?_)
                refine lv_iload_n hx hb dX12_halls_106 rfl (lv_at hl 4 rfl) ?_
                refine lv_iload hx hb dX12_halls_107 (lv_at hl 6 rfl) ?_
                refine lv_iload hx hb dX12_halls_109 (lv_at hl 0 rfl) ?_
                have q4 := ti_mulr (a := j93_5.toInt) (b := x2.toInt) (A := 12) (B := 1296) (by omega) (by omega) (by omega) (by omega)
                generalize hex3 : j93_5.toInt * x2.toInt = wx3 at q4
                refine tr_imul hx hb dX12_halls_111 (Eq.refl _) (Eq.refl _) (by rw [hex3]; omega) (by rw [hex3]; omega) (fun x3 ex3 => ?_)
                rw [hex3] at ex3
                replace hF := hF.trans (congrArg (dv_k f_X12_halls_14b) (congrArg (dv_k f_X12_halls_93b) (dv_bn (hex3.trans ex3.symm))))
                have jn156 : ∀ (H156 : Heap) (locs : List Loc) (ls : Array Slot) (j156_4 : Int32), th_B G Γ Γ [(46, 41), (46, 42), (46, 43), (67, 0), (66, 0), (59, 0), (64, 0), (65, 0), (46, 39), (46, 40), (63, 0), (46, 44), (46, 45), (46, 22), (46, 24), (58, 0), (46, 23), (46, 25)] H0 H156 locs → th_RK a0 G Γ H156 → lv_has ls 7 [(0, .ref a0), (1, .int p1), (2, .int j14_2), (3, .int j14_3), (5, .int j93_5), (4, .int j156_4)] → F = dv_k f_X12_halls_14b (dv_k f_X12_halls_93b (f_X12_halls_156 (dv G Γ H156) ((a0 : Int)) (p1.toInt) (j14_2.toInt) (j14_3.toInt) (j93_5.toInt) (j156_4.toInt))) → W p l e ({ frames := 53, cells := 0, slots := 0, locals := 1675 } : Room) s m ([.ref a0, .int p1] : List Value).toArray below meth c H156 locs 0 0 (MQ below (th_Q (fun (v : Option Value) (H1 : Heap) => ∃ r : Int32, v = some (.int r) ∧ th_I G Γ H1 ∧ th_F G Γ [(46, 41), (46, 42), (46, 43), (67, 0), (66, 0), (59, 0), (64, 0), (65, 0), (46, 39), (46, 40), (63, 0), (46, 44), (46, 45), (46, 22), (46, 24), (58, 0), (46, 23), (46, 25)] H0 H1 ∧ th_RK a0 G Γ H1 ∧ (f_X12_halls (dv G Γ H0) (a0 : Int) p1.toInt = (dv G Γ H1, r.toInt))) G) ([.ref a0, .int p1] : List Value).toArray s 0 0 (fun q => G.2.2 ≤ q)) (F0 m 156 ls []) := by
                  intro H156 locs ls j156_4 hB hR hl hF
                  have lj156_4 := ti_lo j156_4; have uj156_4 := ti_hi j156_4
                  replace hF := hF.trans (congrArg (dv_k f_X12_halls_14b) (congrArg (dv_k f_X12_halls_93b) (f_X12_halls_156.eq_1 (dv G Γ H156) ((a0 : Int)) (p1.toInt) (j14_2.toInt) (j14_3.toInt) (j93_5.toInt) (j156_4.toInt))))
                  refine tr_iinc (fun x5 => [(5, .int x5), (0, .ref a0), (1, .int p1), (2, .int j14_2), (3, .int j14_3), (4, .int j156_4)]) hx hb dX12_halls_156 hl (k := 4) rfl (Eq.refl _) tk_1 (by omega) (by omega) (by decide) (fun _ => rfl) (fun x5 ls ex5 hl => ?_)
                  replace hF := hF.trans (congrArg (dv_k f_X12_halls_14b) (congrArg (dv_k f_X12_halls_93b) (dv_bn (ex5.symm))))
                  refine lv_goto (tgt := 93) hx hb dX12_halls_159 (by decide) ?_
                  replace hF := hF.trans (congrArg (dv_k f_X12_halls_14b) (dv_kl))
                  exact ih93 H156 locs ls j156_4 x5 hB hR (lv_sub hl [1, 2, 3, 4, 5, 0] rfl) hF (by omega) (by omega) (by omega)
                refine tr_icmp_ne (tgt := 156) hx hb dX12_halls_112 (by decide) (Eq.refl _) (Eq.refl _) (fun c112 => ?_) (fun c112 => ?_)
                · replace hF := hF.trans (congrArg (dv_k f_X12_halls_14b) (congrArg (dv_k f_X12_halls_93b) (if_pos c112)))
                  exact jn156 H93 locs ls j93_4 hB hR (lv_sub hl [1, 2, 3, 4, 6, 5] rfl) hF
                · replace hF := hF.trans (congrArg (dv_k f_X12_halls_14b) (congrArg (dv_k f_X12_halls_93b) (if_neg (not_not_intro c112))))
                  refine lv_iload hx hb dX12_halls_115 (lv_at hl 0 rfl) ?_
                  refine th_call (th_runS (As := [.int x2]) (rest := []) hC mf_X12_isSide km_X12_119 st_X12_isSide (c_X12_isSide l G Γ H93 hB.1 hU x2) rfl rfl ⟨Nat.le_of_ble_eq_true rfl, Nat.le_of_ble_eq_true rfl⟩ rfl hl.1 rfl (Nat.le_of_ble_eq_true rfl) dX12_halls_117 ⟨Nat.le_refl _, Nat.le_refl _⟩) hB.2.1 (fun v117 H117 locs hp hz hS => ?_)
                  obtain ⟨x6, rfl, lx6, ux6, q117_0, q117_1, rfl⟩ := hp
                  have hB := th_B_s hB hS
                  replace hF := hF.trans (congrArg (dv_k f_X12_halls_14b) (congrArg (dv_k f_X12_halls_93b) (dv_bn2 (q117_1))))
                  refine W.eq (g2 := F0 m 120 ls [.int x6]) rfl ?_
                  refine tr_if_eq (tgt := 156) hx hb dX12_halls_120 (by decide) (Eq.refl _) (fun c120 => ?_) (fun c120 => ?_)
                  · replace hF := hF.trans (congrArg (dv_k f_X12_halls_14b) (congrArg (dv_k f_X12_halls_93b) (if_pos c120)))
                    exact jn156 H93 locs ls j93_4 hB hR (lv_sub hl [1, 2, 3, 4, 6, 5] rfl) hF
                  · replace hF := hF.trans (congrArg (dv_k f_X12_halls_14b) (congrArg (dv_k f_X12_halls_93b) (if_neg c120)))
                    refine lv_aload_n hx hb dX12_halls_123 rfl (lv_at hl 1 rfl) ?_
                    refine lv_iload_n hx hb dX12_halls_124 rfl (lv_at hl 3 rfl) ?_
                    refine lv_iload hx hb dX12_halls_125 (lv_at hl 6 rfl) ?_
                    refine lv_iload hx hb dX12_halls_127 (lv_at hl 0 rfl) ?_
                    refine th_call (th_runV (As := [.int j14_2, .int j93_5, .int x2]) (rest := []) hC mf_X12_canFill km_X12_455 im_X12_canFill se_X12_canFill (c_X12_canFill l G Γ H93 hB.1 hR.1 hU a0 h0 j14_2 j93_5 (by omega) (by omega) x2 (by omega) (by omega)) rfl rfl ⟨Nat.le_of_ble_eq_true rfl, Nat.le_of_ble_eq_true rfl⟩ hB.1 h0 ro_46 rfl rfl hl.1 rfl (Nat.le_of_ble_eq_true rfl) dX12_halls_129 ⟨Nat.le_refl _, Nat.le_refl _⟩) hB.2.1 (fun v129 H129 locs hp hz hS => ?_)
                    have hRD := hR
                    obtain ⟨x7, rfl, lx7, ux7, hI1, hf, hR, z129_0⟩ := hp
                    have hR := th_RK_c hR hRD hI1 h0 hf (by decide)
                    have hB := th_B_c hB hI1 hS hf (by decide)
                    replace hF := hF.trans (congrArg (dv_k f_X12_halls_14b) (congrArg (dv_k f_X12_halls_93b) (dv_bn2 (z129_0))))
                    refine W.eq (g2 := F0 m 132 ls [.int x7]) rfl ?_
                    refine tr_if_ne (tgt := 138) hx hb dX12_halls_132 (by decide) (Eq.refl _) (fun c132 => ?_) (fun c132 => ?_)
                    · replace hF := hF.trans (congrArg (dv_k f_X12_halls_14b) (congrArg (dv_k f_X12_halls_93b) (if_pos c132)))
                      refine lv_iload hx hb dX12_halls_138 (lv_at hl 5 rfl) ?_
                      refine lv_iload_n hx hb dX12_halls_140 rfl (lv_at hl 2 rfl) ?_
                      refine tr_icmp_ne (tgt := 153) hx hb dX12_halls_141 (by decide) (Eq.refl _) (Eq.refl _) (fun c141 => ?_) (fun c141 => ?_)
                      · replace hF := hF.trans (congrArg (dv_k f_X12_halls_14b) (congrArg (dv_k f_X12_halls_93b) (if_pos c141)))
                        refine tr_iincE (fun x8 => [(4, .int x8), (6, .int x2), (0, .ref a0), (1, .int p1), (2, .int j14_2), (3, .int j14_3), (5, .int j93_5)]) hx hb dX12_halls_153 hl (k := 5) rfl (Eq.refl _) (by decide) (fun _ => rfl) (fun x8 ls ex8 hl => ?_)
                        have lx8 := ti_lo x8; have ux8 := ti_hi x8
                        replace hF := hF.trans (congrArg (dv_k f_X12_halls_14b) (congrArg (dv_k f_X12_halls_93b) (dv_bn (ex8))))
                        exact jn156 H129 locs ls x8 hB hR (lv_sub hl [2, 3, 4, 5, 6, 0] rfl) hF
                      · replace hF := hF.trans (congrArg (dv_k f_X12_halls_14b) (congrArg (dv_k f_X12_halls_93b) (if_neg (not_not_intro c141))))
                        refine lv_bipush (v := 100) hx hb dX12_halls_144 (by decide) ?_
                        refine lv_iload hx hb dX12_halls_146 (lv_at hl 6 rfl) ?_
                        refine tr_imul hx hb dX12_halls_148 tk_100 (Eq.refl _) (by omega) (by omega) (fun x9 ex9 => ?_)
                        replace hF := hF.trans (congrArg (dv_k f_X12_halls_14b) (congrArg (dv_k f_X12_halls_93b) (dv_bn (ex9.symm))))
                        refine lv_iload hx hb dX12_halls_149 (lv_at hl 0 rfl) ?_
                        refine tr_iadd hx hb dX12_halls_151 (Eq.refl _) (Eq.refl _) (by omega) (by omega) (fun x10 ex10 => ?_)
                        replace hF := hF.trans (congrArg (dv_k f_X12_halls_14b) (congrArg (dv_k f_X12_halls_93b) (dv_bn (ex10.symm))))
                        replace hF := hF.trans (congrArg (dv_k f_X12_halls_14b) (dv_kr))
                        replace hF := hF.trans (dv_kr)
                        exact th_iret hC hH hr hlocks rfl hB.2.1 ⟨_, rfl, hB.1, hB.2.2, hR, (hF0.symm.trans hF)⟩ dX12_halls_152
                    · replace hF := hF.trans (congrArg (dv_k f_X12_halls_14b) (congrArg (dv_k f_X12_halls_93b) (if_neg (not_not_intro c132))))
                      refine lv_goto (tgt := 156) hx hb dX12_halls_135 (by decide) ?_
                      exact jn156 H129 locs ls j93_4 hB hR (lv_sub hl [1, 2, 3, 4, 6, 5] rfl) hF
          exact lp93 ((2147483648 : Int) - (1)).toNat H84 locs ls 0 1 hB hR (lv_sub hl [2, 3, 4, 5, 1, 0] rfl) (by rw [tk_0, tk_1]; exact hF) (by decide) (by decide) (by have w0 := tk_0; have w1 := tk_1; omega)
        · replace hF := hF.trans (congrArg (dv_k f_X12_halls_14b) (if_neg (Int.not_le.mpr c20)))
          refine lv_aload_n hx hb dX12_halls_23 rfl (lv_at hl 0 rfl) ?_
          refine lv_iload hx hb dX12_halls_24 (lv_at hl 4 rfl) ?_
          refine th_call (th_runV (As := [.int j14_4]) (rest := []) hC mf_X12_isWhole km_X12_357 im_X12_isWhole se_X12_isWhole (c_X12_isWhole l G Γ H0 hB.1 hU a0 h0 j14_4 (by omega) (by omega)) rfl rfl ⟨Nat.le_of_ble_eq_true rfl, Nat.le_of_ble_eq_true rfl⟩ hB.1 h0 ro_46 rfl rfl hl.1 rfl (Nat.le_of_ble_eq_true rfl) dX12_halls_26 ⟨Nat.le_refl _, Nat.le_refl _⟩) hB.2.1 (fun v26 H26 locs hp hz hS => ?_)
          obtain ⟨x11, rfl, lx11, ux11, q26_0, rfl⟩ := hp
          have hB := th_B_s hB hS
          replace hF := hF.trans (congrArg (dv_k f_X12_halls_14b) (dv_bn2 (q26_0)))
          refine W.eq (g2 := F0 m 29 ls [.int x11]) rfl ?_
          have jn66 : ∀ (locs : List Loc) (ls : Array Slot) (j66_2 : Int32) (j66_3 : Int32), th_B G Γ Γ [(46, 41), (46, 42), (46, 43), (67, 0), (66, 0), (59, 0), (64, 0), (65, 0), (46, 39), (46, 40), (63, 0), (46, 44), (46, 45), (46, 22), (46, 24), (58, 0), (46, 23), (46, 25)] H0 H0 locs → lv_has ls 7 [(0, .ref a0), (1, .int p1), (4, .int j14_4), (2, .int j66_2), (3, .int j66_3)] → F = dv_k f_X12_halls_14b (f_X12_halls_66 (dv G Γ H0) ((a0 : Int)) (p1.toInt) (j14_4.toInt) (j66_2.toInt) (j66_3.toInt)) → 0 ≤ j66_3.toInt → j66_3.toInt ≤ 8192 → j66_3.toInt ≤ 144 * j14_4.toInt + 144 → W p l e ({ frames := 53, cells := 0, slots := 0, locals := 1675 } : Room) s m ([.ref a0, .int p1] : List Value).toArray below meth c H0 locs 0 0 (MQ below (th_Q (fun (v : Option Value) (H1 : Heap) => ∃ r : Int32, v = some (.int r) ∧ th_I G Γ H1 ∧ th_F G Γ [(46, 41), (46, 42), (46, 43), (67, 0), (66, 0), (59, 0), (64, 0), (65, 0), (46, 39), (46, 40), (63, 0), (46, 44), (46, 45), (46, 22), (46, 24), (58, 0), (46, 23), (46, 25)] H0 H1 ∧ th_RK a0 G Γ H1 ∧ (f_X12_halls (dv G Γ H0) (a0 : Int) p1.toInt = (dv G Γ H1, r.toInt))) G) ([.ref a0, .int p1] : List Value).toArray s 0 0 (fun q => G.2.2 ≤ q)) (F0 m 66 ls []) := by
            intro locs ls j66_2 j66_3 hB hl hF g66_0 g66_1 g66_2
            have lj66_2 := ti_lo j66_2; have uj66_2 := ti_hi j66_2
            have lj66_3 := ti_lo j66_3; have uj66_3 := ti_hi j66_3
            replace hF := hF.trans (congrArg (dv_k f_X12_halls_14b) (f_X12_halls_66.eq_1 (dv G Γ H0) ((a0 : Int)) (p1.toInt) (j14_4.toInt) (j66_2.toInt) (j66_3.toInt)))
            refine tr_iinc (fun x12 => [(4, .int x12), (0, .ref a0), (1, .int p1), (2, .int j66_2), (3, .int j66_3)]) hx hb dX12_halls_66 hl (k := 2) rfl (Eq.refl _) tk_1 (by omega) (by omega) (by decide) (fun _ => rfl) (fun x12 ls ex12 hl => ?_)
            replace hF := hF.trans (congrArg (dv_k f_X12_halls_14b) (dv_bn (ex12.symm)))
            refine lv_goto (tgt := 14) hx hb dX12_halls_69 (by decide) ?_
            replace hF := hF.trans (dv_kl)
            exact ih14 locs ls j66_2 j66_3 x12 hB (lv_sub hl [1, 2, 3, 4, 0] rfl) hF (by omega) (by omega) (by omega) (by omega) (by omega) (by omega)
          refine tr_if_ne (tgt := 35) hx hb dX12_halls_29 (by decide) (Eq.refl _) (fun c29 => ?_) (fun c29 => ?_)
          · replace hF := hF.trans (congrArg (dv_k f_X12_halls_14b) (if_pos c29))
            refine lv_iload_n hx hb dX12_halls_35 rfl (lv_at hl 2 rfl) ?_
            refine lv_iconst (v := 1) hx hb dX12_halls_36 (by decide) ?_
            refine lv_iload hx hb dX12_halls_37 (lv_at hl 4 rfl) ?_
            refine lv_ishl hx hb dX12_halls_39 ?_
            refine lv_topi (fun x13 ex13 => ?_)
            have lx13 := ti_lo x13; have ux13 := ti_hi x13
            replace hF := hF.trans (congrArg (dv_k f_X12_halls_14b) (dv_bn (dv_shl_e tk_1 (Eq.refl _) ex13)))
            refine lv_ior hx hb dX12_halls_40 ?_
            refine lv_topi (fun x14 ex14 => ?_)
            have lx14 := ti_lo x14; have ux14 := ti_hi x14
            replace hF := hF.trans (congrArg (dv_k f_X12_halls_14b) (dv_bn (dv_or_e (Eq.refl _) (Eq.refl _) ex14)))
            refine lv_istore_n (lv' := [(2, .int x14), (0, .ref a0), (1, .int p1), (3, .int j14_3), (4, .int j14_4)]) hx hb dX12_halls_41 rfl hl (by decide) rfl (fun ls hl => ?_)
            refine lv_iload_n hx hb dX12_halls_42 rfl (lv_at hl 3 rfl) ?_
            refine lv_aload_n hx hb dX12_halls_43 rfl (lv_at hl 1 rfl) ?_
            refine th_getO (j := 2) (r2 := 48) hC cf_X12 hB.1 h0 ro_46 rfl rfl kf_X12_28 dX12_halls_44 (fun b15 mb15 hb15 => ?_)
            refine lv_bipush (v := 29) hx hb dX12_halls_47 (by decide) ?_
            refine lv_iload hx hb dX12_halls_49 (lv_at hl 4 rfl) ?_
            refine tr_iadd hx hb dX12_halls_51 tk_29 (Eq.refl _) (by omega) (by omega) (fun x16 ex16 => ?_)
            replace hF := hF.trans (congrArg (dv_k f_X12_halls_14b) (dv_bn (ex16.symm)))
            refine th_ialdF hC hB.1 hb15 ro_48 rfl (Eq.refl _) (by omega) (by omega) (ek_side (by omega) (by omega)) dX12_halls_52 (fun x17 mx17 lx17 ux17 => ?_)
            replace hF := hF.trans (congrArg (dv_k f_X12_halls_14b) (dv_bn (dv_aldI hB.1 hU hb15 ow_48 (z := x16.toInt) mx17 (by omega))))
            refine lv_aload_n hx hb dX12_halls_53 rfl (lv_at hl 1 rfl) ?_
            refine th_getK hC cf_X12 hB.1 h0 ro_46 rfl (j := 2) (by decide) mb15 kf_X12_28 dX12_halls_54 ?_
            refine lv_bipush (v := 29) hx hb dX12_halls_57 (by decide) ?_
            refine lv_iload hx hb dX12_halls_59 (lv_at hl 4 rfl) ?_
            refine tr_iadd hx hb dX12_halls_61 tk_29 (Eq.refl _) (by omega) (by omega) (fun x18 ex18 => ?_)
            replace hF := hF.trans (congrArg (dv_k f_X12_halls_14b) (dv_bn (ex18.symm)))
            refine th_ialdF hC hB.1 hb15 ro_48 rfl (Eq.refl _) (by omega) (by omega) (ek_side (by omega) (by omega)) dX12_halls_62 (fun x19 mx19 lx19 ux19 => ?_)
            replace hF := hF.trans (congrArg (dv_k f_X12_halls_14b) (dv_bn (dv_aldI hB.1 hU hb15 ow_48 (z := x18.toInt) mx19 (by omega))))
            have q21 := ti_mulr (a := x17.toInt) (b := x19.toInt) (A := 12) (B := 12) (by omega) (by omega) (by omega) (by omega)
            generalize hex20 : x17.toInt * x19.toInt = wx20 at q21
            refine tr_imul hx hb dX12_halls_63 (Eq.refl _) (Eq.refl _) (by rw [hex20]; omega) (by rw [hex20]; omega) (fun x20 ex20 => ?_)
            rw [hex20] at ex20
            replace hF := hF.trans (congrArg (dv_k f_X12_halls_14b) (dv_bn (hex20.trans ex20.symm)))
            refine tr_iadd hx hb dX12_halls_64 (Eq.refl _) (Eq.refl _) (by omega) (by omega) (fun x22 ex22 => ?_)
            replace hF := hF.trans (congrArg (dv_k f_X12_halls_14b) (dv_bn (ex22.symm)))
            refine lv_istore_n (lv' := [(3, .int x22), (2, .int x14), (0, .ref a0), (1, .int p1), (4, .int j14_4)]) hx hb dX12_halls_65 rfl hl (by decide) rfl (fun ls hl => ?_)
            exact jn66 locs ls x14 x22 hB (lv_sub hl [2, 3, 4, 1, 0] rfl) hF (by omega) (by omega) (by omega)
          · replace hF := hF.trans (congrArg (dv_k f_X12_halls_14b) (if_neg (not_not_intro c29)))
            refine lv_goto (tgt := 66) hx hb dX12_halls_32 (by decide) ?_
            exact jn66 locs ls j14_2 j14_3 hB (lv_sub hl [0, 1, 4, 2, 3] rfl) hF (by omega) (by omega) (by omega)
    exact lp14 ((2147483648 : Int) - (0)).toNat [] ls 0 0 0 hB (lv_sub hl [3, 4, 2, 1, 0] rfl) (by rw [tk_0]; exact hF) (by decide) (by decide) (by decide) (by decide) (by have w0 := tk_0; omega) (by have w0 := tk_0; omega)
  · replace hF := hF.trans (if_neg (Int.not_le.mpr c2))
    refine lv_iconst (v := (-1)) hx hb dX12_halls_5 (by decide) ?_
    exact th_iret hC hH hr hlocks rfl hB.2.1 ⟨_, rfl, hB.1, hB.2.2, hR, (hF0.symm.trans (hF.trans (by rw [tk_m1])))⟩ dX12_halls_6

set_option maxHeartbeats 4000000 in
set_option maxRecDepth 100000 in
theorem c_X12_laysFloors (l : Launch) (G : th_G) (Γ : th_Ga) (H0 : Heap) (hI : th_I G Γ H0) (hU : dv_U Γ) (a0 : Nat) (h0 : Γ a0 = (46, 0)) (hR : th_RK a0 G Γ H0) : Met l yX12_laysFloors (.code yX12_laysFloors cX12_laysFloors 2 (none) :: th_tb) ({ frames := 54, cells := 0, slots := 0, locals := 1697 } : Room) (th_P [.ref a0] G H0) (th_Q (fun (v : Option Value) (H1 : Heap) => v = none ∧ th_I G Γ H1 ∧ th_F G Γ [(46, 41), (46, 42), (46, 43), (67, 0), (66, 0), (59, 0), (64, 0), (65, 0), (46, 39), (46, 40), (63, 0), (46, 44), (46, 45), (46, 22), (46, 24), (58, 0), (46, 23), (46, 25)] H0 H1 ∧ th_RK a0 G Γ H1 ∧ (f_X12_laysFloors (dv G Γ H0) (a0 : Int) = (dv G Γ H1, 0))) G) 0 0 (fun q => G.2.2 ≤ q) := by
  refine th_met RX12 (by decide) rfl (Nat.le_of_ble_eq_true rfl) ?_
  intro p e s m below meth c hC hH hr hlocks hnm ls hl
  have hx := hC.1
  have hb := hC.2.1
  have hB : th_B G Γ Γ [(46, 41), (46, 42), (46, 43), (67, 0), (66, 0), (59, 0), (64, 0), (65, 0), (46, 39), (46, 40), (63, 0), (46, 44), (46, 45), (46, 22), (46, 24), (58, 0), (46, 23), (46, 25)] H0 H0 [] := ⟨hI, va_S.rf, th_F_rf⟩
  have hl : lv_has ls 2 [(0, .ref a0)] := hl
  obtain ⟨F, hF0⟩ : ∃ F, F = f_X12_laysFloors (dv G Γ H0) ((a0 : Int)) := ⟨_, rfl⟩
  have hF := hF0.trans (f_X12_laysFloors.eq_1 (dv G Γ H0) ((a0 : Int)))
  refine lv_iconst (v := 0) hx hb dX12_laysFloors_0 (by decide) ?_
  refine lv_istore_n (lv' := [(1, .int 0), (0, .ref a0)]) hx hb dX12_laysFloors_1 rfl hl (by decide) rfl (fun ls hl => ?_)
  have lp2 : ∀ (n2 : Nat) (H2 : Heap) (locs : List Loc) (ls : Array Slot) (j2_1 : Int32), th_B G Γ Γ [(46, 41), (46, 42), (46, 43), (67, 0), (66, 0), (59, 0), (64, 0), (65, 0), (46, 39), (46, 40), (63, 0), (46, 44), (46, 45), (46, 22), (46, 24), (58, 0), (46, 23), (46, 25)] H0 H2 locs → th_RK a0 G Γ H2 → lv_has ls 2 [(0, .ref a0), (1, .int j2_1)] → F = dv_lp f_X12_laysFloors_2b (dv G Γ H2, (a0 : Int), j2_1.toInt) → 0 ≤ j2_1.toInt → j2_1.toInt ≤ 1296 → (2147483648 : Int) - j2_1.toInt ≤ (n2 : Int) → W p l e ({ frames := 54, cells := 0, slots := 0, locals := 1697 } : Room) s m ([.ref a0] : List Value).toArray below meth c H2 locs 0 0 (MQ below (th_Q (fun (v : Option Value) (H1 : Heap) => v = none ∧ th_I G Γ H1 ∧ th_F G Γ [(46, 41), (46, 42), (46, 43), (67, 0), (66, 0), (59, 0), (64, 0), (65, 0), (46, 39), (46, 40), (63, 0), (46, 44), (46, 45), (46, 22), (46, 24), (58, 0), (46, 23), (46, 25)] H0 H1 ∧ th_RK a0 G Γ H1 ∧ (f_X12_laysFloors (dv G Γ H0) (a0 : Int) = (dv G Γ H1, 0))) G) ([.ref a0] : List Value).toArray s 0 0 (fun q => G.2.2 ≤ q)) (F0 m 2 ls []) := by
    intro n2
    induction n2 with
    | zero => intro H2 locs ls j2_1 hB hR hl hF g2_0 g2_1 hm2; exact absurd hm2 (by have := ti_hi j2_1; omega)
    | succ n2 ih2 =>
      intro H2 locs ls j2_1 hB hR hl hF g2_0 g2_1 hm2
      have lj2_1 := ti_lo j2_1; have uj2_1 := ti_hi j2_1
      have hm2 : (2147483648 : Int) - j2_1.toInt ≤ (n2 : Int) + 1 := by omega
      replace hF := hF.trans (dv_lp_eq)
      replace hF := hF.trans (congrArg (dv_k f_X12_laysFloors_2b) (f_X12_laysFloors_2c.eq_1 (dv G Γ H2) ((a0 : Int)) (j2_1.toInt)))
      refine lv_iload_n hx hb dX12_laysFloors_2 rfl (lv_at hl 1 rfl) ?_
      refine lv_sipush (v := 1296) hx hb dX12_laysFloors_3 (by decide) ?_
      refine tr_icmp_ge (tgt := 22) hx hb dX12_laysFloors_6 (by decide) (Eq.refl _) tk_1296 (fun c6 => ?_) (fun c6 => ?_)
      · replace hF := hF.trans (congrArg (dv_k f_X12_laysFloors_2b) (if_pos c6))
        refine lv_aload_n hx hb dX12_laysFloors_22 rfl (lv_at hl 0 rfl) ?_
        refine lv_iconst (v := 1) hx hb dX12_laysFloors_23 (by decide) ?_
        refine th_call (th_runV (As := [.int 1]) (rest := []) hC mf_X12_fillsNow km_X12_445 im_X12_fillsNow se_X12_fillsNow (c_X12_fillsNow l G Γ H2 hB.1 hU a0 h0 hR 1 (by decide) (by decide)) rfl rfl ⟨Nat.le_of_ble_eq_true rfl, Nat.le_of_ble_eq_true rfl⟩ hB.1 h0 ro_46 rfl rfl hl.1 rfl (Nat.le_of_ble_eq_true rfl) dX12_laysFloors_24 ⟨Nat.le_refl _, Nat.le_refl _⟩) hB.2.1 (fun v24 H24 locs hp hz hS => ?_)
        obtain ⟨rfl, hI1, hf, hR, z24_0⟩ := hp
        have hB := th_B_c hB hI1 hS hf (by decide)
        have zf24 := z24_0
        rw [tk_1] at zf24
        replace hF := hF.trans (congrArg (dv_k f_X12_laysFloors_2b) (dv_bn2 (zf24)))
        refine W.eq (g2 := F0 m 27 ls []) rfl ?_
        replace hF := hF.trans (dv_kr)
        exact th_vret hC hH hr hlocks hB.2.1 ⟨rfl, hB.1, hB.2.2, hR, (hF0.symm.trans hF)⟩ dX12_laysFloors_27
      · replace hF := hF.trans (congrArg (dv_k f_X12_laysFloors_2b) (if_neg (Int.not_le.mpr c6)))
        refine lv_aload_n hx hb dX12_laysFloors_9 rfl (lv_at hl 0 rfl) ?_
        refine th_getO (j := 38) (r2 := 67) hC cf_X12 hB.1 h0 ro_46 rfl rfl kf_X12_90 dX12_laysFloors_10 (fun b1 mb1 hb1 => ?_)
        have sb1 := (th_F_o hB.2.2 h0 ro_46 (j := 38) (by decide) (by decide)).symm.trans mb1
        refine lv_iload_n hx hb dX12_laysFloors_13 rfl (lv_at hl 1 rfl) ?_
        refine lv_iconst (v := 0) hx hb dX12_laysFloors_14 (by decide) ?_
        have hIo := hB.1
        refine th_iastF hC hB hb1 (Or.inl hb1) ro_67 rfl (by decide) (Eq.refl _) (by omega) (by omega) th_sIa dX12_laysFloors_15 (fun H15 locs hB hf15 hst15 => ?_)
        have hf := hf15
        have mm2 := (th_F_o hf h0 ro_46 (j := 38) (by decide) (by decide)).trans mb1
        have hR := th_RK_F hB.1 hR h0 hf (th_T_s hb1 ro_67 hst15) (by decide)
        replace hF := hF.trans (congrArg (dv_k f_X12_laysFloors_2b) (dv_bn (dv_stoI hIo hB.1 hU hb1 ow_67 (i := j2_1.toInt) hst15 tk_0 (by omega))))
        refine tr_iinc (fun x3 => [(1, .int x3), (0, .ref a0)]) hx hb dX12_laysFloors_16 hl (k := 1) rfl (Eq.refl _) tk_1 (by omega) (by omega) (by decide) (fun _ => rfl) (fun x3 ls ex3 hl => ?_)
        replace hF := hF.trans (congrArg (dv_k f_X12_laysFloors_2b) (dv_bn (ex3.symm)))
        refine lv_goto (tgt := 2) hx hb dX12_laysFloors_19 (by decide) ?_
        replace hF := hF.trans (dv_kl)
        exact ih2 H15 locs ls x3 hB hR (lv_sub hl [1, 0] rfl) hF (by omega) (by omega) (by omega)
  exact lp2 ((2147483648 : Int) - (0)).toNat H0 [] ls 0 hB hR (lv_sub hl [1, 0] rfl) (by rw [tk_0]; exact hF) (by decide) (by decide) (by have w0 := tk_0; omega)

set_option maxHeartbeats 4000000 in
set_option maxRecDepth 100000 in
theorem c_X12_floors (l : Launch) (G : th_G) (Γ : th_Ga) (H0 : Heap) (hI : th_I G Γ H0) (hU : dv_U Γ) (a0 : Nat) (h0 : Γ a0 = (46, 0)) (hR : th_RK a0 G Γ H0) : Met l yX12_floors (.code yX12_floors cX12_floors 1 (some FieldType.int) :: th_tb) ({ frames := 55, cells := 0, slots := 0, locals := 1718 } : Room) (th_P [.ref a0] G H0) (th_Q (fun (v : Option Value) (H1 : Heap) => ∃ r : Int32, v = some (.int r) ∧ th_I G Γ H1 ∧ th_F G Γ [(46, 41), (46, 42), (46, 43), (67, 0), (66, 0), (59, 0), (64, 0), (65, 0), (46, 39), (46, 40), (63, 0), (46, 44), (46, 45), (46, 22), (46, 24), (58, 0), (46, 23), (46, 25)] H0 H1 ∧ th_RK a0 G Γ H1 ∧ (f_X12_floors (dv G Γ H0) (a0 : Int) = (dv G Γ H1, r.toInt))) G) 0 0 (fun q => G.2.2 ≤ q) := by
  refine th_met RX12 (by decide) rfl (Nat.le_of_ble_eq_true rfl) ?_
  intro p e s m below meth c hC hH hr hlocks hnm ls hl
  have hx := hC.1
  have hb := hC.2.1
  have hB : th_B G Γ Γ [(46, 41), (46, 42), (46, 43), (67, 0), (66, 0), (59, 0), (64, 0), (65, 0), (46, 39), (46, 40), (63, 0), (46, 44), (46, 45), (46, 22), (46, 24), (58, 0), (46, 23), (46, 25)] H0 H0 [] := ⟨hI, va_S.rf, th_F_rf⟩
  have hl : lv_has ls 1 [(0, .ref a0)] := hl
  obtain ⟨F, hF0⟩ : ∃ F, F = f_X12_floors (dv G Γ H0) ((a0 : Int)) := ⟨_, rfl⟩
  have hF := hF0.trans (f_X12_floors.eq_1 (dv G Γ H0) ((a0 : Int)))
  refine lv_aload_n hx hb dX12_floors_0 rfl (lv_at hl 0 rfl) ?_
  refine th_call (th_runV (As := []) (rest := []) hC mf_X12_laysFloors km_X12_465 im_X12_laysFloors se_X12_laysFloors (c_X12_laysFloors l G Γ H0 hB.1 hU a0 h0 hR) rfl rfl ⟨Nat.le_of_ble_eq_true rfl, Nat.le_of_ble_eq_true rfl⟩ hB.1 h0 ro_46 rfl rfl hl.1 rfl (Nat.le_of_ble_eq_true rfl) dX12_floors_1 ⟨Nat.le_refl _, Nat.le_refl _⟩) hB.2.1 (fun v1 H1 locs hp hz hS => ?_)
  obtain ⟨rfl, hI1, hf, hR, z1_0⟩ := hp
  have hB := th_B_c hB hI1 hS hf (by decide)
  replace hF := hF.trans (dv_bn2 (z1_0))
  refine W.eq (g2 := F0 m 4 ls []) rfl ?_
  refine lv_aload_n hx hb dX12_floors_4 rfl (lv_at hl 0 rfl) ?_
  refine th_getI (j := 41) hC cf_X12 hB.1 h0 ro_46 rfl rfl kf_X12_406 dX12_floors_5 (fun x1 mx1 lx1 ux1 => ?_)
  replace hF := hF.trans (dv_bn (dv_getI h0 ro_46 (j := 41) rfl mx1 (by decide)))
  exact th_iret hC hH hr hlocks rfl hB.2.1 ⟨_, rfl, hB.1, hB.2.2, hR, (hF0.symm.trans hF)⟩ dX12_floors_8

set_option maxHeartbeats 4000000 in
set_option maxRecDepth 100000 in
theorem c_X12_look (l : Launch) (G : th_G) (Γ : th_Ga) (H0 : Heap) (hI : th_I G Γ H0) (hU : dv_U Γ) (a0 : Nat) (h0 : Γ a0 = (46, 0)) (hR : th_RK a0 G Γ H0) (p1 : Int32) : Met l yX12_look (.code yX12_look cX12_look 6 (some FieldType.int) :: th_tb) ({ frames := 55, cells := 0, slots := 0, locals := 1718 } : Room) (th_P [.ref a0, .int p1] G H0) (th_Q (fun (v : Option Value) (H1 : Heap) => ∃ r : Int32, v = some (.int r) ∧ th_I G Γ H1 ∧ th_F G Γ [(46, 41), (46, 42), (46, 43), (67, 0), (66, 0), (59, 0), (64, 0), (65, 0), (46, 39), (46, 40), (63, 0), (46, 44), (46, 45), (46, 22), (46, 24), (58, 0), (46, 23), (46, 25)] H0 H1 ∧ th_RK a0 G Γ H1 ∧ (f_X12_look (dv G Γ H0) (a0 : Int) p1.toInt = (dv G Γ H1, r.toInt))) G) 0 0 (fun q => G.2.2 ≤ q) := by
  refine th_met RX12 (by decide) rfl (Nat.le_of_ble_eq_true rfl) ?_
  intro p e s m below meth c hC hH hr hlocks hnm ls hl
  have hx := hC.1
  have hb := hC.2.1
  have hB : th_B G Γ Γ [(46, 41), (46, 42), (46, 43), (67, 0), (66, 0), (59, 0), (64, 0), (65, 0), (46, 39), (46, 40), (63, 0), (46, 44), (46, 45), (46, 22), (46, 24), (58, 0), (46, 23), (46, 25)] H0 H0 [] := ⟨hI, va_S.rf, th_F_rf⟩
  have hl : lv_has ls 6 [(0, .ref a0), (1, .int p1)] := hl
  have lp1 := ti_lo p1; have up1 := ti_hi p1
  obtain ⟨F, hF0⟩ : ∃ F, F = f_X12_look (dv G Γ H0) ((a0 : Int)) (p1.toInt) := ⟨_, rfl⟩
  have hF := hF0.trans (f_X12_look.eq_1 (dv G Γ H0) ((a0 : Int)) (p1.toInt))
  refine lv_iload_n hx hb dX12_look_0 rfl (lv_at hl 1 rfl) ?_
  refine lv_iconst (v := 0) hx hb dX12_look_1 (by decide) ?_
  refine lv_iconst (v := 2) hx hb dX12_look_2 (by decide) ?_
  refine th_call (th_runS (As := [.int p1, .int 0, .int 2]) (rest := []) hC mf_X12_lies km_X12_18 st_X12_lies (c_X12_lies l G Γ H0 hB.1 hU p1 0 2) rfl rfl ⟨Nat.le_of_ble_eq_true rfl, Nat.le_of_ble_eq_true rfl⟩ rfl hl.1 rfl (Nat.le_of_ble_eq_true rfl) dX12_look_3 ⟨Nat.le_refl _, Nat.le_refl _⟩) hB.2.1 (fun v3 H3 locs hp hz hS => ?_)
  obtain ⟨x1, rfl, lx1, ux1, q3_0, q3_1, q3_2, rfl⟩ := hp
  have hB := th_B_s hB hS
  have w3_1 := tk_0
  have w3_2 := tk_2
  have zf3 := q3_2
  rw [tk_0, tk_2] at zf3
  replace hF := hF.trans (dv_bn2 (zf3))
  refine W.eq (g2 := F0 m 6 ls [.int x1]) rfl ?_
  refine tr_if_ne (tgt := 11) hx hb dX12_look_6 (by decide) (Eq.refl _) (fun c6 => ?_) (fun c6 => ?_)
  · replace hF := hF.trans (if_pos c6)
    refine lv_aload_n hx hb dX12_look_11 rfl (lv_at hl 0 rfl) ?_
    refine th_call (th_runV (As := []) (rest := []) hC mf_X12_laysFloors km_X12_465 im_X12_laysFloors se_X12_laysFloors (c_X12_laysFloors l G Γ H0 hB.1 hU a0 h0 hR) rfl rfl ⟨Nat.le_of_ble_eq_true rfl, Nat.le_of_ble_eq_true rfl⟩ hB.1 h0 ro_46 rfl rfl hl.1 rfl (Nat.le_of_ble_eq_true rfl) dX12_look_12 ⟨Nat.le_refl _, Nat.le_refl _⟩) hB.2.1 (fun v12 H12 locs hp hz hS => ?_)
    obtain ⟨rfl, hI1, hf, hR, z12_0⟩ := hp
    have hB := th_B_c hB hI1 hS hf (by decide)
    replace hF := hF.trans (dv_bn2 (z12_0))
    refine W.eq (g2 := F0 m 15 ls []) rfl ?_
    refine lv_iconst (v := (-1)) hx hb dX12_look_15 (by decide) ?_
    refine lv_istore_n (lv' := [(2, .int (-1)), (0, .ref a0), (1, .int p1)]) hx hb dX12_look_16 rfl hl (by decide) rfl (fun ls hl => ?_)
    refine lv_ldc (v := 1000000) hx hb hC.2.2.2.1 (hC.2.2.2.2.1 _ kw_1623) dX12_look_17 ?_
    refine lv_istore_n (lv' := [(3, .int 1000000), (2, .int (-1)), (0, .ref a0), (1, .int p1)]) hx hb dX12_look_19 rfl hl (by decide) rfl (fun ls hl => ?_)
    refine lv_iconst (v := 0) hx hb dX12_look_20 (by decide) ?_
    refine lv_istore (lv' := [(4, .int 0), (3, .int 1000000), (2, .int (-1)), (0, .ref a0), (1, .int p1)]) hx hb dX12_look_21 hl (by decide) rfl (fun ls hl => ?_)
    have lp23 : ∀ (n23 : Nat) (locs : List Loc) (ls : Array Slot) (j23_2 : Int32) (j23_3 : Int32) (j23_4 : Int32), th_B G Γ Γ [(46, 41), (46, 42), (46, 43), (67, 0), (66, 0), (59, 0), (64, 0), (65, 0), (46, 39), (46, 40), (63, 0), (46, 44), (46, 45), (46, 22), (46, 24), (58, 0), (46, 23), (46, 25)] H0 H12 locs → lv_has ls 6 [(0, .ref a0), (1, .int p1), (2, .int j23_2), (3, .int j23_3), (4, .int j23_4)] → F = dv_lp f_X12_look_23b (dv G Γ H12, (a0 : Int), p1.toInt, j23_2.toInt, j23_3.toInt, j23_4.toInt) → (-1) ≤ j23_2.toInt → j23_2.toInt ≤ 143 → j23_3.toInt ≤ 1000000 → 0 ≤ j23_4.toInt → j23_4.toInt ≤ 144 → (2147483648 : Int) - j23_4.toInt ≤ (n23 : Int) → W p l e ({ frames := 55, cells := 0, slots := 0, locals := 1718 } : Room) s m ([.ref a0, .int p1] : List Value).toArray below meth c H12 locs 0 0 (MQ below (th_Q (fun (v : Option Value) (H1 : Heap) => ∃ r : Int32, v = some (.int r) ∧ th_I G Γ H1 ∧ th_F G Γ [(46, 41), (46, 42), (46, 43), (67, 0), (66, 0), (59, 0), (64, 0), (65, 0), (46, 39), (46, 40), (63, 0), (46, 44), (46, 45), (46, 22), (46, 24), (58, 0), (46, 23), (46, 25)] H0 H1 ∧ th_RK a0 G Γ H1 ∧ (f_X12_look (dv G Γ H0) (a0 : Int) p1.toInt = (dv G Γ H1, r.toInt))) G) ([.ref a0, .int p1] : List Value).toArray s 0 0 (fun q => G.2.2 ≤ q)) (F0 m 23 ls []) := by
      intro n23
      induction n23 with
      | zero => intro locs ls j23_2 j23_3 j23_4 hB hl hF g23_0 g23_1 g23_2 g23_3 g23_4 hm23; exact absurd hm23 (by have := ti_hi j23_4; omega)
      | succ n23 ih23 =>
        intro locs ls j23_2 j23_3 j23_4 hB hl hF g23_0 g23_1 g23_2 g23_3 g23_4 hm23
        have lj23_2 := ti_lo j23_2; have uj23_2 := ti_hi j23_2
        have lj23_3 := ti_lo j23_3; have uj23_3 := ti_hi j23_3
        have lj23_4 := ti_lo j23_4; have uj23_4 := ti_hi j23_4
        have hm23 : (2147483648 : Int) - j23_4.toInt ≤ (n23 : Int) + 1 := by omega
        replace hF := hF.trans (dv_lp_eq)
        replace hF := hF.trans (congrArg (dv_k f_X12_look_23b) (f_X12_look_23c.eq_1 (dv G Γ H12) ((a0 : Int)) (p1.toInt) (j23_2.toInt) (j23_3.toInt) (j23_4.toInt)))
        refine lv_iload hx hb dX12_look_23 (lv_at hl 4 rfl) ?_
        refine lv_sipush (v := 144) hx hb dX12_look_25 (by decide) ?_
        have jn72 : ∀ (locs : List Loc) (ls : Array Slot) , th_B G Γ Γ [(46, 41), (46, 42), (46, 43), (67, 0), (66, 0), (59, 0), (64, 0), (65, 0), (46, 39), (46, 40), (63, 0), (46, 44), (46, 45), (46, 22), (46, 24), (58, 0), (46, 23), (46, 25)] H0 H12 locs → lv_has ls 6 [(1, .int p1), (2, .int j23_2), (3, .int j23_3)] → F = dv_k f_X12_look_23b (f_X12_look_72 (dv G Γ H12) (p1.toInt) (j23_2.toInt) (j23_3.toInt)) → W p l e ({ frames := 55, cells := 0, slots := 0, locals := 1718 } : Room) s m ([.ref a0, .int p1] : List Value).toArray below meth c H12 locs 0 0 (MQ below (th_Q (fun (v : Option Value) (H1 : Heap) => ∃ r : Int32, v = some (.int r) ∧ th_I G Γ H1 ∧ th_F G Γ [(46, 41), (46, 42), (46, 43), (67, 0), (66, 0), (59, 0), (64, 0), (65, 0), (46, 39), (46, 40), (63, 0), (46, 44), (46, 45), (46, 22), (46, 24), (58, 0), (46, 23), (46, 25)] H0 H1 ∧ th_RK a0 G Γ H1 ∧ (f_X12_look (dv G Γ H0) (a0 : Int) p1.toInt = (dv G Γ H1, r.toInt))) G) ([.ref a0, .int p1] : List Value).toArray s 0 0 (fun q => G.2.2 ≤ q)) (F0 m 72 ls []) := by
          intro locs ls hB hl hF
          replace hF := hF.trans (congrArg (dv_k f_X12_look_23b) (f_X12_look_72.eq_1 (dv G Γ H12) (p1.toInt) (j23_2.toInt) (j23_3.toInt)))
          refine lv_iload_n hx hb dX12_look_72 rfl (lv_at hl 1 rfl) ?_
          refine lv_iconst (v := (-1)) hx hb dX12_look_73 (by decide) ?_
          refine tr_icmp_ne (tgt := 79) hx hb dX12_look_74 (by decide) (Eq.refl _) tk_m1 (fun c74 => ?_) (fun c74 => ?_)
          · replace hF := hF.trans (congrArg (dv_k f_X12_look_23b) (if_pos c74))
            refine lv_iload_n hx hb dX12_look_79 rfl (lv_at hl 0 rfl) ?_
            refine tr_if_ne (tgt := 90) hx hb dX12_look_80 (by decide) (Eq.refl _) (fun c80 => ?_) (fun c80 => ?_)
            · replace hF := hF.trans (congrArg (dv_k f_X12_look_23b) (if_pos c80))
              refine lv_iload_n hx hb dX12_look_90 rfl (lv_at hl 0 rfl) ?_
              refine lv_iconst (v := 1) hx hb dX12_look_91 (by decide) ?_
              refine tr_icmp_ne (tgt := 102) hx hb dX12_look_92 (by decide) (Eq.refl _) tk_1 (fun c92 => ?_) (fun c92 => ?_)
              · replace hF := hF.trans (congrArg (dv_k f_X12_look_23b) (if_pos c92))
                refine lv_iload_n hx hb dX12_look_102 rfl (lv_at hl 2 rfl) ?_
                replace hF := hF.trans (dv_kr)
                exact th_iret hC hH hr hlocks rfl hB.2.1 ⟨_, rfl, hB.1, hB.2.2, hR, (hF0.symm.trans hF)⟩ dX12_look_103
              · replace hF := hF.trans (congrArg (dv_k f_X12_look_23b) (if_neg (not_not_intro c92)))
                refine lv_iload_n hx hb dX12_look_95 rfl (lv_at hl 1 rfl) ?_
                refine lv_bipush (v := 12) hx hb dX12_look_96 (by decide) ?_
                refine tr_idiv hx hb dX12_look_98 (Eq.refl _) tk_12 (by omega) (by omega) (fun x2 ex2 => ?_)
                replace hF := hF.trans (congrArg (dv_k f_X12_look_23b) (dv_bn (ex2.symm)))
                refine lv_goto (tgt := 103) hx hb dX12_look_99 (by decide) ?_
                replace hF := hF.trans (dv_kr)
                exact th_iret hC hH hr hlocks rfl hB.2.1 ⟨_, rfl, hB.1, hB.2.2, hR, (hF0.symm.trans hF)⟩ dX12_look_103
            · replace hF := hF.trans (congrArg (dv_k f_X12_look_23b) (if_neg (not_not_intro c80)))
              refine lv_iload_n hx hb dX12_look_83 rfl (lv_at hl 1 rfl) ?_
              refine lv_bipush (v := 12) hx hb dX12_look_84 (by decide) ?_
              refine tr_irem hx hb dX12_look_86 (Eq.refl _) tk_12 (by omega) (by omega) (fun x3 ex3 => ?_)
              replace hF := hF.trans (congrArg (dv_k f_X12_look_23b) (dv_bn (ex3.symm)))
              refine lv_goto (tgt := 103) hx hb dX12_look_87 (by decide) ?_
              replace hF := hF.trans (dv_kr)
              exact th_iret hC hH hr hlocks rfl hB.2.1 ⟨_, rfl, hB.1, hB.2.2, hR, (hF0.symm.trans hF)⟩ dX12_look_103
          · replace hF := hF.trans (congrArg (dv_k f_X12_look_23b) (if_neg (not_not_intro c74)))
            refine lv_iconst (v := (-1)) hx hb dX12_look_77 (by decide) ?_
            replace hF := hF.trans (dv_kr)
            exact th_iret hC hH hr hlocks rfl hB.2.1 ⟨_, rfl, hB.1, hB.2.2, hR, (hF0.symm.trans (hF.trans (by rw [tk_m1])))⟩ dX12_look_78
        refine tr_icmp_ge (tgt := 72) hx hb dX12_look_28 (by decide) (Eq.refl _) tk_144 (fun c28 => ?_) (fun c28 => ?_)
        · replace hF := hF.trans (congrArg (dv_k f_X12_look_23b) (if_pos c28))
          exact jn72 locs ls hB (lv_sub hl [1, 2, 3] rfl) hF
        · replace hF := hF.trans (congrArg (dv_k f_X12_look_23b) (if_neg (Int.not_le.mpr c28)))
          refine lv_aload_n hx hb dX12_look_31 rfl (lv_at hl 0 rfl) ?_
          refine th_getI (j := 41) hC cf_X12 hB.1 h0 ro_46 rfl rfl kf_X12_406 dX12_look_32 (fun x4 mx4 lx4 ux4 => ?_)
          replace hF := hF.trans (congrArg (dv_k f_X12_look_23b) (dv_bn (dv_getI h0 ro_46 (j := 41) rfl mx4 (by decide))))
          refine tr_if_le (tgt := 72) hx hb dX12_look_35 (by decide) (Eq.refl _) (fun c35 => ?_) (fun c35 => ?_)
          · replace hF := hF.trans (congrArg (dv_k f_X12_look_23b) (if_pos c35))
            exact jn72 locs ls hB (lv_sub hl [1, 2, 3] rfl) hF
          · replace hF := hF.trans (congrArg (dv_k f_X12_look_23b) (if_neg (Int.not_le.mpr c35)))
            refine lv_aload_n hx hb dX12_look_38 rfl (lv_at hl 0 rfl) ?_
            refine lv_iload hx hb dX12_look_39 (lv_at hl 4 rfl) ?_
            refine th_call (th_runV (As := [.int j23_4]) (rest := []) hC mf_X12_mostAt km_X12_468 im_X12_mostAt se_X12_mostAt (c_X12_mostAt l G Γ H12 hB.1 hU a0 h0 j23_4 (by omega) (by omega)) rfl rfl ⟨Nat.le_of_ble_eq_true rfl, Nat.le_of_ble_eq_true rfl⟩ hB.1 h0 ro_46 rfl rfl hl.1 rfl (Nat.le_of_ble_eq_true rfl) dX12_look_41 ⟨Nat.le_refl _, Nat.le_refl _⟩) hB.2.1 (fun v41 H41 locs hp hz hS => ?_)
            obtain ⟨x5, rfl, q41_0, rfl⟩ := hp
            have hB := th_B_s hB hS
            replace hF := hF.trans (congrArg (dv_k f_X12_look_23b) (dv_bn2 (q41_0)))
            refine W.eq (g2 := F0 m 44 ls [.int x5]) rfl ?_
            refine lv_istore (lv' := [(5, .int x5), (0, .ref a0), (1, .int p1), (2, .int j23_2), (3, .int j23_3), (4, .int j23_4)]) hx hb dX12_look_44 hl (by decide) rfl (fun ls hl => ?_)
            refine lv_iload hx hb dX12_look_46 (lv_at hl 0 rfl) ?_
            have jn66 : ∀ (locs : List Loc) (ls : Array Slot) (j66_2 : Int32) (j66_3 : Int32), th_B G Γ Γ [(46, 41), (46, 42), (46, 43), (67, 0), (66, 0), (59, 0), (64, 0), (65, 0), (46, 39), (46, 40), (63, 0), (46, 44), (46, 45), (46, 22), (46, 24), (58, 0), (46, 23), (46, 25)] H0 H12 locs → lv_has ls 6 [(0, .ref a0), (1, .int p1), (4, .int j23_4), (2, .int j66_2), (3, .int j66_3)] → F = dv_k f_X12_look_23b (f_X12_look_66 (dv G Γ H12) ((a0 : Int)) (p1.toInt) (j23_4.toInt) (j66_2.toInt) (j66_3.toInt)) → (-1) ≤ j66_2.toInt → j66_2.toInt ≤ 143 → j66_3.toInt ≤ 1000000 → W p l e ({ frames := 55, cells := 0, slots := 0, locals := 1718 } : Room) s m ([.ref a0, .int p1] : List Value).toArray below meth c H12 locs 0 0 (MQ below (th_Q (fun (v : Option Value) (H1 : Heap) => ∃ r : Int32, v = some (.int r) ∧ th_I G Γ H1 ∧ th_F G Γ [(46, 41), (46, 42), (46, 43), (67, 0), (66, 0), (59, 0), (64, 0), (65, 0), (46, 39), (46, 40), (63, 0), (46, 44), (46, 45), (46, 22), (46, 24), (58, 0), (46, 23), (46, 25)] H0 H1 ∧ th_RK a0 G Γ H1 ∧ (f_X12_look (dv G Γ H0) (a0 : Int) p1.toInt = (dv G Γ H1, r.toInt))) G) ([.ref a0, .int p1] : List Value).toArray s 0 0 (fun q => G.2.2 ≤ q)) (F0 m 66 ls []) := by
              intro locs ls j66_2 j66_3 hB hl hF g66_0 g66_1 g66_2
              have lj66_2 := ti_lo j66_2; have uj66_2 := ti_hi j66_2
              have lj66_3 := ti_lo j66_3; have uj66_3 := ti_hi j66_3
              replace hF := hF.trans (congrArg (dv_k f_X12_look_23b) (f_X12_look_66.eq_1 (dv G Γ H12) ((a0 : Int)) (p1.toInt) (j23_4.toInt) (j66_2.toInt) (j66_3.toInt)))
              refine tr_iinc (fun x6 => [(4, .int x6), (0, .ref a0), (1, .int p1), (2, .int j66_2), (3, .int j66_3)]) hx hb dX12_look_66 hl (k := 2) rfl (Eq.refl _) tk_1 (by omega) (by omega) (by decide) (fun _ => rfl) (fun x6 ls ex6 hl => ?_)
              replace hF := hF.trans (congrArg (dv_k f_X12_look_23b) (dv_bn (ex6.symm)))
              refine lv_goto (tgt := 23) hx hb dX12_look_69 (by decide) ?_
              replace hF := hF.trans (dv_kl)
              exact ih23 locs ls j66_2 j66_3 x6 hB (lv_sub hl [1, 2, 3, 4, 0] rfl) hF (by omega) (by omega) (by omega) (by omega) (by omega) (by omega)
            refine tr_if_eq (tgt := 66) hx hb dX12_look_48 (by decide) (Eq.refl _) (fun c48 => ?_) (fun c48 => ?_)
            · replace hF := hF.trans (congrArg (dv_k f_X12_look_23b) (if_pos c48))
              exact jn66 locs ls j23_2 j23_3 hB (lv_sub hl [1, 2, 5, 3, 4] rfl) hF (by omega) (by omega) (by omega)
            · replace hF := hF.trans (congrArg (dv_k f_X12_look_23b) (if_neg c48))
              refine lv_iload hx hb dX12_look_51 (lv_at hl 0 rfl) ?_
              refine lv_iload_n hx hb dX12_look_53 rfl (lv_at hl 4 rfl) ?_
              refine tr_icmp_lt (tgt := 60) hx hb dX12_look_54 (by decide) (Eq.refl _) (Eq.refl _) (fun c54 => ?_) (fun c54 => ?_)
              · replace hF := hF.trans (congrArg (dv_k f_X12_look_23b) (if_pos c54))
                refine lv_iload hx hb dX12_look_60 (lv_at hl 0 rfl) ?_
                refine lv_istore_n (lv' := [(3, .int x5), (5, .int x5), (0, .ref a0), (1, .int p1), (2, .int j23_2), (4, .int j23_4)]) hx hb dX12_look_62 rfl hl (by decide) rfl (fun ls hl => ?_)
                refine lv_iload hx hb dX12_look_63 (lv_at hl 5 rfl) ?_
                refine lv_istore_n (lv' := [(2, .int j23_4), (3, .int x5), (5, .int x5), (0, .ref a0), (1, .int p1), (4, .int j23_4)]) hx hb dX12_look_65 rfl hl (by decide) rfl (fun ls hl => ?_)
                exact jn66 locs ls j23_4 x5 hB (lv_sub hl [3, 4, 5, 0, 1] rfl) hF (by omega) (by omega) (by omega)
              · replace hF := hF.trans (congrArg (dv_k f_X12_look_23b) (if_neg (Int.not_lt.mpr c54)))
                refine lv_goto (tgt := 66) hx hb dX12_look_57 (by decide) ?_
                exact jn66 locs ls j23_2 j23_3 hB (lv_sub hl [1, 2, 5, 3, 4] rfl) hF (by omega) (by omega) (by omega)
    exact lp23 ((2147483648 : Int) - (0)).toNat locs ls (-1) 1000000 0 hB (lv_sub hl [3, 4, 2, 1, 0] rfl) (by rw [tk_m1, tk_1000000, tk_0]; exact hF) (by decide) (by decide) (by decide) (by decide) (by decide) (by have w0 := tk_0; have w1 := tk_1000000; have w2 := tk_m1; omega)
  · replace hF := hF.trans (if_neg (not_not_intro c6))
    refine lv_iconst (v := (-1)) hx hb dX12_look_9 (by decide) ?_
    exact th_iret hC hH hr hlocks rfl hB.2.1 ⟨_, rfl, hB.1, hB.2.2, hR, (hF0.symm.trans (hF.trans (by rw [tk_m1])))⟩ dX12_look_10

set_option maxHeartbeats 4000000 in
set_option maxRecDepth 100000 in
theorem c_X12_of (l : Launch) (G : th_G) (Γ : th_Ga) (H0 : Heap) (hI : th_I G Γ H0) (hU : dv_U Γ) (a0 : Nat) (h0 : Γ a0 = (46, 0)) (hR : th_RE a0 G Γ H0) (p1 : Int32) (p2 : Int32) : Met l yX12_of (.code yX12_of cX12_of 3 (some FieldType.int) :: th_tb) ({ frames := 52, cells := 0, slots := 0, locals := 1648 } : Room) (th_P [.ref a0, .int p1, .int p2] G H0) (th_Q (fun (v : Option Value) (H1 : Heap) => ∃ r : Int32, v = some (.int r) ∧ th_I G Γ H1 ∧ th_F G Γ [(46, 22), (46, 24), (58, 0), (46, 23), (46, 25)] H0 H1 ∧ th_RE a0 G Γ H1 ∧ (f_X12_of (dv G Γ H0) (a0 : Int) p1.toInt p2.toInt = (dv G Γ H1, r.toInt))) G) 0 0 (fun q => G.2.2 ≤ q) := by
  refine th_met RX12 (by decide) rfl (Nat.le_of_ble_eq_true rfl) ?_
  intro p e s m below meth c hC hH hr hlocks hnm ls hl
  have hx := hC.1
  have hb := hC.2.1
  have hB : th_B G Γ Γ [(46, 22), (46, 24), (58, 0), (46, 23), (46, 25)] H0 H0 [] := ⟨hI, va_S.rf, th_F_rf⟩
  have hl : lv_has ls 3 [(0, .ref a0), (1, .int p1), (2, .int p2)] := hl
  have lp1 := ti_lo p1; have up1 := ti_hi p1
  have lp2 := ti_lo p2; have up2 := ti_hi p2
  obtain ⟨F, hF0⟩ : ∃ F, F = f_X12_of (dv G Γ H0) ((a0 : Int)) (p1.toInt) (p2.toInt) := ⟨_, rfl⟩
  have hF := hF0.trans (f_X12_of.eq_1 (dv G Γ H0) ((a0 : Int)) (p1.toInt) (p2.toInt))
  refine lv_aload_n hx hb dX12_of_0 rfl (lv_at hl 0 rfl) ?_
  refine lv_iload_n hx hb dX12_of_1 rfl (lv_at hl 1 rfl) ?_
  refine th_call (th_runV (As := [.int p1]) (rest := []) hC mf_X12_isCarpet km_X12_134 im_X12_isCarpet se_X12_isCarpet (c_X12_isCarpet l G Γ H0 hB.1 hU a0 h0 p1) rfl rfl ⟨Nat.le_of_ble_eq_true rfl, Nat.le_of_ble_eq_true rfl⟩ hB.1 h0 ro_46 rfl rfl hl.1 rfl (Nat.le_of_ble_eq_true rfl) dX12_of_2 ⟨Nat.le_refl _, Nat.le_refl _⟩) hB.2.1 (fun v2 H2 locs hp hz hS => ?_)
  obtain ⟨x1, rfl, lx1, ux1, q2_0, q2_1, rfl⟩ := hp
  have hB := th_B_s hB hS
  replace hF := hF.trans (dv_bn2 (q2_1))
  refine W.eq (g2 := F0 m 5 ls [.int x1]) rfl ?_
  refine tr_if_ne (tgt := 10) hx hb dX12_of_5 (by decide) (Eq.refl _) (fun c5 => ?_) (fun c5 => ?_)
  · replace hF := hF.trans (if_pos c5)
    refine lv_iload_n hx hb dX12_of_10 rfl (lv_at hl 2 rfl) ?_
    by_cases k11_0 : p2.toInt = 0
    · replace hF := hF.trans (if_pos k11_0)
      refine lv_tableIn (off := 37) (tgt := 48) hx hb dX12_of_11 (by omega) (by omega) (by rw [show p2.toInt = 0 from k11_0]; decide) (by decide) ?_
      refine lv_aload_n hx hb dX12_of_48 rfl (lv_at hl 0 rfl) ?_
      refine th_getO (j := 2) (r2 := 48) hC cf_X12 hB.1 h0 ro_46 rfl rfl kf_X12_28 dX12_of_49 (fun b2 mb2 hb2 => ?_)
      refine lv_bipush (v := 29) hx hb dX12_of_52 (by decide) ?_
      refine lv_iload_n hx hb dX12_of_54 rfl (lv_at hl 1 rfl) ?_
      refine tr_iadd hx hb dX12_of_55 tk_29 (Eq.refl _) (by omega) (by omega) (fun x3 ex3 => ?_)
      replace hF := hF.trans (dv_bn (ex3.symm))
      refine th_ialdF hC hB.1 hb2 ro_48 rfl (Eq.refl _) (by omega) (by omega) (ek_side (by omega) (by omega)) dX12_of_56 (fun x4 mx4 lx4 ux4 => ?_)
      replace hF := hF.trans (dv_bn (dv_aldI hB.1 hU hb2 ow_48 (z := x3.toInt) mx4 (by omega)))
      exact th_iret hC hH hr hlocks rfl hB.2.1 ⟨_, rfl, hB.1, hB.2.2, hR, (hF0.symm.trans hF)⟩ dX12_of_57
    replace hF := hF.trans (if_neg k11_0)
    by_cases k11_1 : p2.toInt = 1
    · replace hF := hF.trans (if_pos k11_1)
      refine lv_tableIn (off := 47) (tgt := 58) hx hb dX12_of_11 (by omega) (by omega) (by rw [show p2.toInt = 1 from k11_1]; decide) (by decide) ?_
      refine lv_aload_n hx hb dX12_of_58 rfl (lv_at hl 0 rfl) ?_
      refine th_getO (j := 2) (r2 := 48) hC cf_X12 hB.1 h0 ro_46 rfl rfl kf_X12_28 dX12_of_59 (fun b5 mb5 hb5 => ?_)
      refine lv_bipush (v := 38) hx hb dX12_of_62 (by decide) ?_
      refine lv_iload_n hx hb dX12_of_64 rfl (lv_at hl 1 rfl) ?_
      refine tr_iadd hx hb dX12_of_65 tk_38 (Eq.refl _) (by omega) (by omega) (fun x6 ex6 => ?_)
      replace hF := hF.trans (dv_bn (ex6.symm))
      refine th_ialdF hC hB.1 hb5 ro_48 rfl (Eq.refl _) (by omega) (by omega) (ek_b (by omega) (by omega)) dX12_of_66 (fun x7 mx7 lx7 ux7 => ?_)
      replace hF := hF.trans (dv_bn (dv_aldI hB.1 hU hb5 ow_48 (z := x6.toInt) mx7 (by omega)))
      exact th_iret hC hH hr hlocks rfl hB.2.1 ⟨_, rfl, hB.1, hB.2.2, hR, (hF0.symm.trans hF)⟩ dX12_of_67
    replace hF := hF.trans (if_neg k11_1)
    by_cases k11_2 : p2.toInt = 2
    · replace hF := hF.trans (if_pos k11_2)
      refine lv_tableIn (off := 57) (tgt := 68) hx hb dX12_of_11 (by omega) (by omega) (by rw [show p2.toInt = 2 from k11_2]; decide) (by decide) ?_
      refine lv_aload_n hx hb dX12_of_68 rfl (lv_at hl 0 rfl) ?_
      refine th_getO (j := 2) (r2 := 48) hC cf_X12 hB.1 h0 ro_46 rfl rfl kf_X12_28 dX12_of_69 (fun b8 mb8 hb8 => ?_)
      refine lv_iconst (v := 0) hx hb dX12_of_72 (by decide) ?_
      refine lv_iload_n hx hb dX12_of_73 rfl (lv_at hl 1 rfl) ?_
      refine tr_iadd hx hb dX12_of_74 tk_0 (Eq.refl _) (by omega) (by omega) (fun x9 ex9 => ?_)
      replace hF := hF.trans (dv_bn (ex9.symm))
      refine th_ialdF hC hB.1 hb8 ro_48 rfl (Eq.refl _) (by omega) (by omega) (ek_a (by omega) (by omega)) dX12_of_75 (fun x10 mx10 lx10 ux10 => ?_)
      replace hF := hF.trans (dv_bn (dv_aldI hB.1 hU hb8 ow_48 (z := x9.toInt) mx10 (by omega)))
      exact th_iret hC hH hr hlocks rfl hB.2.1 ⟨_, rfl, hB.1, hB.2.2, hR, (hF0.symm.trans hF)⟩ dX12_of_76
    replace hF := hF.trans (if_neg k11_2)
    by_cases k11_3 : p2.toInt = 3
    · replace hF := hF.trans (if_pos k11_3)
      refine lv_tableIn (off := 66) (tgt := 77) hx hb dX12_of_11 (by omega) (by omega) (by rw [show p2.toInt = 3 from k11_3]; decide) (by decide) ?_
      refine lv_aload_n hx hb dX12_of_77 rfl (lv_at hl 0 rfl) ?_
      refine th_getO (j := 2) (r2 := 48) hC cf_X12 hB.1 h0 ro_46 rfl rfl kf_X12_28 dX12_of_78 (fun b11 mb11 hb11 => ?_)
      refine lv_bipush (v := 9) hx hb dX12_of_81 (by decide) ?_
      refine lv_iload_n hx hb dX12_of_83 rfl (lv_at hl 1 rfl) ?_
      refine tr_iadd hx hb dX12_of_84 tk_9 (Eq.refl _) (by omega) (by omega) (fun x12 ex12 => ?_)
      replace hF := hF.trans (dv_bn (ex12.symm))
      refine th_ialdF hC hB.1 hb11 ro_48 rfl (Eq.refl _) (by omega) (by omega) (ek_a (by omega) (by omega)) dX12_of_85 (fun x13 mx13 lx13 ux13 => ?_)
      replace hF := hF.trans (dv_bn (dv_aldI hB.1 hU hb11 ow_48 (z := x12.toInt) mx13 (by omega)))
      exact th_iret hC hH hr hlocks rfl hB.2.1 ⟨_, rfl, hB.1, hB.2.2, hR, (hF0.symm.trans hF)⟩ dX12_of_86
    replace hF := hF.trans (if_neg k11_3)
    by_cases k11_4 : p2.toInt = 4
    · replace hF := hF.trans (if_pos k11_4)
      refine lv_tableIn (off := 76) (tgt := 87) hx hb dX12_of_11 (by omega) (by omega) (by rw [show p2.toInt = 4 from k11_4]; decide) (by decide) ?_
      refine lv_aload_n hx hb dX12_of_87 rfl (lv_at hl 0 rfl) ?_
      refine th_getO (j := 2) (r2 := 48) hC cf_X12 hB.1 h0 ro_46 rfl rfl kf_X12_28 dX12_of_88 (fun b14 mb14 hb14 => ?_)
      refine lv_bipush (v := 18) hx hb dX12_of_91 (by decide) ?_
      refine lv_iload_n hx hb dX12_of_93 rfl (lv_at hl 1 rfl) ?_
      refine tr_iadd hx hb dX12_of_94 tk_18 (Eq.refl _) (by omega) (by omega) (fun x15 ex15 => ?_)
      replace hF := hF.trans (dv_bn (ex15.symm))
      refine th_ialdF hC hB.1 hb14 ro_48 rfl (Eq.refl _) (by omega) (by omega) (ek_a (by omega) (by omega)) dX12_of_95 (fun x16 mx16 lx16 ux16 => ?_)
      replace hF := hF.trans (dv_bn (dv_aldI hB.1 hU hb14 ow_48 (z := x15.toInt) mx16 (by omega)))
      exact th_iret hC hH hr hlocks rfl hB.2.1 ⟨_, rfl, hB.1, hB.2.2, hR, (hF0.symm.trans hF)⟩ dX12_of_96
    replace hF := hF.trans (if_neg k11_4)
    by_cases k11_5 : p2.toInt = 5
    · replace hF := hF.trans (if_pos k11_5)
      refine lv_tableIn (off := 86) (tgt := 97) hx hb dX12_of_11 (by omega) (by omega) (by rw [show p2.toInt = 5 from k11_5]; decide) (by decide) ?_
      refine lv_aload_n hx hb dX12_of_97 rfl (lv_at hl 0 rfl) ?_
      refine lv_iload_n hx hb dX12_of_98 rfl (lv_at hl 1 rfl) ?_
      refine th_call (th_runV (As := [.int p1]) (rest := []) hC mf_X12_isLaid km_X12_137 im_X12_isLaid se_X12_isLaid (c_X12_isLaid l G Γ H0 hB.1 hU a0 h0 p1 (by omega) (by omega)) rfl rfl ⟨Nat.le_of_ble_eq_true rfl, Nat.le_of_ble_eq_true rfl⟩ hB.1 h0 ro_46 rfl rfl hl.1 rfl (Nat.le_of_ble_eq_true rfl) dX12_of_99 ⟨Nat.le_refl _, Nat.le_refl _⟩) hB.2.1 (fun v99 H99 locs hp hz hS => ?_)
      obtain ⟨x17, rfl, lx17, ux17, q99_0, q99_1, q99_2, rfl⟩ := hp
      have hB := th_B_s hB hS
      replace hF := hF.trans (dv_bn2 (q99_2))
      refine W.eq (g2 := F0 m 102 ls [.int x17]) rfl ?_
      refine tr_if_eq (tgt := 113) hx hb dX12_of_102 (by decide) (Eq.refl _) (fun c102 => ?_) (fun c102 => ?_)
      · replace hF := hF.trans (if_pos c102)
        refine lv_iconst (v := (-1)) hx hb dX12_of_113 (by decide) ?_
        exact th_iret hC hH hr hlocks rfl hB.2.1 ⟨_, rfl, hB.1, hB.2.2, hR, (hF0.symm.trans (hF.trans (by rw [tk_m1])))⟩ dX12_of_114
      · replace hF := hF.trans (if_neg c102)
        refine lv_aload_n hx hb dX12_of_105 rfl (lv_at hl 0 rfl) ?_
        refine lv_iload_n hx hb dX12_of_106 rfl (lv_at hl 1 rfl) ?_
        refine th_call (th_runV (As := [.int p1]) (rest := []) hC mf_X12_wearsNow km_X12_140 im_X12_wearsNow se_X12_wearsNow (c_X12_wearsNow l G Γ H0 hB.1 hU a0 h0 hR p1 (by omega) (by omega)) rfl rfl ⟨Nat.le_of_ble_eq_true rfl, Nat.le_of_ble_eq_true rfl⟩ hB.1 h0 ro_46 rfl rfl hl.1 rfl (Nat.le_of_ble_eq_true rfl) dX12_of_107 ⟨Nat.le_refl _, Nat.le_refl _⟩) hB.2.1 (fun v107 H107 locs hp hz hS => ?_)
        obtain ⟨x18, rfl, lx18, ux18, hI1, hf, hR, z107_0⟩ := hp
        have hB := th_B_c hB hI1 hS hf (by decide)
        replace hF := hF.trans (dv_bn2 (z107_0))
        refine W.eq (g2 := F0 m 110 ls [.int x18]) rfl ?_
        refine lv_goto (tgt := 114) hx hb dX12_of_110 (by decide) ?_
        exact th_iret hC hH hr hlocks rfl hB.2.1 ⟨_, rfl, hB.1, hB.2.2, hR, (hF0.symm.trans hF)⟩ dX12_of_114
    replace hF := hF.trans (if_neg k11_5)
    refine lv_tableOut (tgt := 115) hx hb dX12_of_11 (by omega) (by decide) ?_
    refine lv_iconst (v := (-1)) hx hb dX12_of_115 (by decide) ?_
    exact th_iret hC hH hr hlocks rfl hB.2.1 ⟨_, rfl, hB.1, hB.2.2, hR, (hF0.symm.trans (hF.trans (by rw [tk_m1])))⟩ dX12_of_116
  · replace hF := hF.trans (if_neg (not_not_intro c5))
    refine lv_iconst (v := (-1)) hx hb dX12_of_8 (by decide) ?_
    exact th_iret hC hH hr hlocks rfl hB.2.1 ⟨_, rfl, hB.1, hB.2.2, hR, (hF0.symm.trans (hF.trans (by rw [tk_m1])))⟩ dX12_of_9

set_option maxHeartbeats 4000000 in
set_option maxRecDepth 100000 in
theorem c_X12_asks (l : Launch) (G : th_G) (Γ : th_Ga) (H0 : Heap) (hI : th_I G Γ H0) (hU : dv_U Γ) (a0 : Nat) (h0 : Γ a0 = (46, 0)) (hR : th_RK a0 G Γ H0) (p1 : Int32) (p2 : Int32) (p3 : Int32) (p4 : Int32) : Met l yX12_asks (.code yX12_asks cX12_asks 5 (some FieldType.int) :: th_tb) ({ frames := 53, cells := 0, slots := 0, locals := 1673 } : Room) (th_P [.ref a0, .int p1, .int p2, .int p3, .int p4] G H0) (th_Q (fun (v : Option Value) (H1 : Heap) => ∃ r : Int32, v = some (.int r) ∧ th_I G Γ H1 ∧ th_F G Γ [(46, 22), (46, 24), (58, 0), (46, 23), (46, 25), (59, 0)] H0 H1 ∧ th_RK a0 G Γ H1 ∧ (f_X12_asks (dv G Γ H0) (a0 : Int) p1.toInt p2.toInt p3.toInt p4.toInt = (dv G Γ H1, r.toInt))) G) 0 0 (fun q => G.2.2 ≤ q) := by
  refine th_met RX12 (by decide) rfl (Nat.le_of_ble_eq_true rfl) ?_
  intro p e s m below meth c hC hH hr hlocks hnm ls hl
  have hx := hC.1
  have hb := hC.2.1
  have hB : th_B G Γ Γ [(46, 22), (46, 24), (58, 0), (46, 23), (46, 25), (59, 0)] H0 H0 [] := ⟨hI, va_S.rf, th_F_rf⟩
  have hl : lv_has ls 5 [(0, .ref a0), (1, .int p1), (2, .int p2), (3, .int p3), (4, .int p4)] := hl
  have lp1 := ti_lo p1; have up1 := ti_hi p1
  have lp2 := ti_lo p2; have up2 := ti_hi p2
  have lp3 := ti_lo p3; have up3 := ti_hi p3
  have lp4 := ti_lo p4; have up4 := ti_hi p4
  obtain ⟨F, hF0⟩ : ∃ F, F = f_X12_asks (dv G Γ H0) ((a0 : Int)) (p1.toInt) (p2.toInt) (p3.toInt) (p4.toInt) := ⟨_, rfl⟩
  have hF := hF0.trans (f_X12_asks.eq_1 (dv G Γ H0) ((a0 : Int)) (p1.toInt) (p2.toInt) (p3.toInt) (p4.toInt))
  refine lv_aload_n hx hb dX12_asks_0 rfl (lv_at hl 0 rfl) ?_
  refine lv_iload_n hx hb dX12_asks_1 rfl (lv_at hl 1 rfl) ?_
  refine th_call (th_runV (As := [.int p1]) (rest := []) hC mf_X12_isCarpet km_X12_134 im_X12_isCarpet se_X12_isCarpet (c_X12_isCarpet l G Γ H0 hB.1 hU a0 h0 p1) rfl rfl ⟨Nat.le_of_ble_eq_true rfl, Nat.le_of_ble_eq_true rfl⟩ hB.1 h0 ro_46 rfl rfl hl.1 rfl (Nat.le_of_ble_eq_true rfl) dX12_asks_2 ⟨Nat.le_refl _, Nat.le_refl _⟩) hB.2.1 (fun v2 H2 locs hp hz hS => ?_)
  obtain ⟨x1, rfl, lx1, ux1, q2_0, q2_1, rfl⟩ := hp
  have hB := th_B_s hB hS
  replace hF := hF.trans (dv_bn2 (q2_1))
  refine W.eq (g2 := F0 m 5 ls [.int x1]) rfl ?_
  refine tr_if_eq (tgt := 22) hx hb dX12_asks_5 (by decide) (Eq.refl _) (fun c5 => ?_) (fun c5 => ?_)
  · replace hF := hF.trans (if_pos c5)
    refine lv_iconst (v := (-1)) hx hb dX12_asks_22 (by decide) ?_
    exact th_iret hC hH hr hlocks rfl hB.2.1 ⟨_, rfl, hB.1, hB.2.2, hR, (hF0.symm.trans (hF.trans (by rw [tk_m1])))⟩ dX12_asks_23
  · replace hF := hF.trans (if_neg c5)
    refine lv_iload_n hx hb dX12_asks_8 rfl (lv_at hl 2 rfl) ?_
    refine th_call (th_runS (As := [.int p2]) (rest := []) hC mf_X12_isAlong km_X12_149 st_X12_isAlong (c_X12_isAlong l G Γ H0 hB.1 hU p2) rfl rfl ⟨Nat.le_of_ble_eq_true rfl, Nat.le_of_ble_eq_true rfl⟩ rfl hl.1 rfl (Nat.le_of_ble_eq_true rfl) dX12_asks_9 ⟨Nat.le_refl _, Nat.le_refl _⟩) hB.2.1 (fun v9 H9 locs hp hz hS => ?_)
    obtain ⟨x2, rfl, lx2, ux2, q9_0, q9_1, rfl⟩ := hp
    have hB := th_B_s hB hS
    replace hF := hF.trans (dv_bn2 (q9_1))
    refine W.eq (g2 := F0 m 12 ls [.int x2]) rfl ?_
    refine tr_if_eq (tgt := 22) hx hb dX12_asks_12 (by decide) (Eq.refl _) (fun c12 => ?_) (fun c12 => ?_)
    · replace hF := hF.trans (if_pos c12)
      refine lv_iconst (v := (-1)) hx hb dX12_asks_22 (by decide) ?_
      exact th_iret hC hH hr hlocks rfl hB.2.1 ⟨_, rfl, hB.1, hB.2.2, hR, (hF0.symm.trans (hF.trans (by rw [tk_m1])))⟩ dX12_asks_23
    · replace hF := hF.trans (if_neg c12)
      refine lv_iload_n hx hb dX12_asks_15 rfl (lv_at hl 3 rfl) ?_
      refine th_call (th_runS (As := [.int p3]) (rest := []) hC mf_X12_isAlong km_X12_149 st_X12_isAlong (c_X12_isAlong l G Γ H0 hB.1 hU p3) rfl rfl ⟨Nat.le_of_ble_eq_true rfl, Nat.le_of_ble_eq_true rfl⟩ rfl hl.1 rfl (Nat.le_of_ble_eq_true rfl) dX12_asks_16 ⟨Nat.le_refl _, Nat.le_refl _⟩) hB.2.1 (fun v16 H16 locs hp hz hS => ?_)
      obtain ⟨x3, rfl, lx3, ux3, q16_0, q16_1, rfl⟩ := hp
      have hB := th_B_s hB hS
      replace hF := hF.trans (dv_bn2 (q16_1))
      refine W.eq (g2 := F0 m 19 ls [.int x3]) rfl ?_
      refine tr_if_ne (tgt := 24) hx hb dX12_asks_19 (by decide) (Eq.refl _) (fun c19 => ?_) (fun c19 => ?_)
      · replace hF := hF.trans (if_pos c19)
        refine lv_iload hx hb dX12_asks_24 (lv_at hl 4 rfl) ?_
        by_cases k26_0 : p4.toInt = 0
        · replace hF := hF.trans (if_pos k26_0)
          refine lv_tableIn (off := 26) (tgt := 52) hx hb dX12_asks_26 (by omega) (by omega) (by rw [show p4.toInt = 0 from k26_0]; decide) (by decide) ?_
          refine lv_aload_n hx hb dX12_asks_52 rfl (lv_at hl 0 rfl) ?_
          refine lv_iload_n hx hb dX12_asks_53 rfl (lv_at hl 1 rfl) ?_
          refine lv_iload_n hx hb dX12_asks_54 rfl (lv_at hl 2 rfl) ?_
          refine lv_iload_n hx hb dX12_asks_55 rfl (lv_at hl 3 rfl) ?_
          refine th_call (th_runV (As := [.int p1, .int p2, .int p3]) (rest := []) hC mf_X12_costsAt km_X12_152 im_X12_costsAt se_X12_costsAt (c_X12_costsAt l G Γ H0 hB.1 hU a0 h0 (th_KE hR) p1 (by omega) (by omega) p2 p3) rfl rfl ⟨Nat.le_of_ble_eq_true rfl, Nat.le_of_ble_eq_true rfl⟩ hB.1 h0 ro_46 rfl rfl hl.1 rfl (Nat.le_of_ble_eq_true rfl) dX12_asks_56 ⟨Nat.le_refl _, Nat.le_refl _⟩) hB.2.1 (fun v56 H56 locs hp hz hS => ?_)
          have hRD := hR
          obtain ⟨x4, rfl, lx4, ux4, hI1, hf, hR, z56_0⟩ := hp
          have hR := th_RK_c hR.1 hRD hI1 h0 hf (by decide)
          have hB := th_B_c hB hI1 hS hf (by decide)
          replace hF := hF.trans (dv_bn2 (z56_0))
          refine W.eq (g2 := F0 m 59 ls [.int x4]) rfl ?_
          exact th_iret hC hH hr hlocks rfl hB.2.1 ⟨_, rfl, hB.1, hB.2.2, hR, (hF0.symm.trans hF)⟩ dX12_asks_59
        replace hF := hF.trans (if_neg k26_0)
        by_cases k26_1 : p4.toInt = 1
        · replace hF := hF.trans (if_pos k26_1)
          refine lv_tableIn (off := 34) (tgt := 60) hx hb dX12_asks_26 (by omega) (by omega) (by rw [show p4.toInt = 1 from k26_1]; decide) (by decide) ?_
          refine lv_aload_n hx hb dX12_asks_60 rfl (lv_at hl 0 rfl) ?_
          refine lv_iload_n hx hb dX12_asks_61 rfl (lv_at hl 1 rfl) ?_
          refine lv_iload_n hx hb dX12_asks_62 rfl (lv_at hl 2 rfl) ?_
          refine lv_iload_n hx hb dX12_asks_63 rfl (lv_at hl 3 rfl) ?_
          refine th_call (th_runV (As := [.int p1, .int p2, .int p3]) (rest := []) hC mf_X12_isBarred km_X12_156 im_X12_isBarred se_X12_isBarred (c_X12_isBarred l G Γ H0 hB.1 hU a0 h0 (th_KE hR) p1 (by omega) (by omega) p2 p3) rfl rfl ⟨Nat.le_of_ble_eq_true rfl, Nat.le_of_ble_eq_true rfl⟩ hB.1 h0 ro_46 rfl rfl hl.1 rfl (Nat.le_of_ble_eq_true rfl) dX12_asks_64 ⟨Nat.le_refl _, Nat.le_refl _⟩) hB.2.1 (fun v64 H64 locs hp hz hS => ?_)
          have hRD := hR
          obtain ⟨x5, rfl, lx5, ux5, hI1, hf, hR, z64_0⟩ := hp
          have hR := th_RK_c hR.1 hRD hI1 h0 hf (by decide)
          have hB := th_B_c hB hI1 hS hf (by decide)
          replace hF := hF.trans (dv_bn2 (z64_0))
          refine W.eq (g2 := F0 m 67 ls [.int x5]) rfl ?_
          refine tr_if_eq (tgt := 74) hx hb dX12_asks_67 (by decide) (Eq.refl _) (fun c67 => ?_) (fun c67 => ?_)
          · replace hF := hF.trans (if_pos c67)
            refine lv_iconst (v := 0) hx hb dX12_asks_74 (by decide) ?_
            exact th_iret hC hH hr hlocks rfl hB.2.1 ⟨_, rfl, hB.1, hB.2.2, hR, (hF0.symm.trans (hF.trans (by rw [tk_0])))⟩ dX12_asks_75
          · replace hF := hF.trans (if_neg c67)
            refine lv_iconst (v := 1) hx hb dX12_asks_70 (by decide) ?_
            refine lv_goto (tgt := 75) hx hb dX12_asks_71 (by decide) ?_
            exact th_iret hC hH hr hlocks rfl hB.2.1 ⟨_, rfl, hB.1, hB.2.2, hR, (hF0.symm.trans (hF.trans (by rw [tk_1])))⟩ dX12_asks_75
        replace hF := hF.trans (if_neg k26_1)
        by_cases k26_2 : p4.toInt = 2
        · replace hF := hF.trans (if_pos k26_2)
          refine lv_tableIn (off := 50) (tgt := 76) hx hb dX12_asks_26 (by omega) (by omega) (by rw [show p4.toInt = 2 from k26_2]; decide) (by decide) ?_
          refine lv_aload_n hx hb dX12_asks_76 rfl (lv_at hl 0 rfl) ?_
          refine lv_iload_n hx hb dX12_asks_77 rfl (lv_at hl 1 rfl) ?_
          refine lv_iload_n hx hb dX12_asks_78 rfl (lv_at hl 2 rfl) ?_
          refine lv_iload_n hx hb dX12_asks_79 rfl (lv_at hl 3 rfl) ?_
          refine th_call (th_runV (As := [.int p1, .int p2, .int p3]) (rest := []) hC mf_X12_canLay km_X12_159 im_X12_canLay se_X12_canLay (c_X12_canLay l G Γ H0 hB.1 hU a0 h0 hR p1 (by omega) (by omega) p2 (by omega) (by omega) p3 (by omega) (by omega) (by omega)) rfl rfl ⟨Nat.le_of_ble_eq_true rfl, Nat.le_of_ble_eq_true rfl⟩ hB.1 h0 ro_46 rfl rfl hl.1 rfl (Nat.le_of_ble_eq_true rfl) dX12_asks_80 ⟨Nat.le_refl _, Nat.le_refl _⟩) hB.2.1 (fun v80 H80 locs hp hz hS => ?_)
          obtain ⟨x6, rfl, lx6, ux6, q80_0, hI1, hf, hR, z80_0⟩ := hp
          have hB := th_B_c hB hI1 hS hf (by decide)
          replace hF := hF.trans (dv_bn2 (z80_0))
          refine W.eq (g2 := F0 m 83 ls [.int x6]) rfl ?_
          refine tr_if_eq (tgt := 90) hx hb dX12_asks_83 (by decide) (Eq.refl _) (fun c83 => ?_) (fun c83 => ?_)
          · replace hF := hF.trans (if_pos c83)
            refine lv_iconst (v := 0) hx hb dX12_asks_90 (by decide) ?_
            exact th_iret hC hH hr hlocks rfl hB.2.1 ⟨_, rfl, hB.1, hB.2.2, hR, (hF0.symm.trans (hF.trans (by rw [tk_0])))⟩ dX12_asks_91
          · replace hF := hF.trans (if_neg c83)
            refine lv_iconst (v := 1) hx hb dX12_asks_86 (by decide) ?_
            refine lv_goto (tgt := 91) hx hb dX12_asks_87 (by decide) ?_
            exact th_iret hC hH hr hlocks rfl hB.2.1 ⟨_, rfl, hB.1, hB.2.2, hR, (hF0.symm.trans (hF.trans (by rw [tk_1])))⟩ dX12_asks_91
        replace hF := hF.trans (if_neg k26_2)
        refine lv_tableOut (tgt := 92) hx hb dX12_asks_26 (by omega) (by decide) ?_
        refine lv_iconst (v := (-1)) hx hb dX12_asks_92 (by decide) ?_
        exact th_iret hC hH hr hlocks rfl hB.2.1 ⟨_, rfl, hB.1, hB.2.2, hR, (hF0.symm.trans (hF.trans (by rw [tk_m1])))⟩ dX12_asks_93
      · replace hF := hF.trans (if_neg (not_not_intro c19))
        refine lv_iconst (v := (-1)) hx hb dX12_asks_22 (by decide) ?_
        exact th_iret hC hH hr hlocks rfl hB.2.1 ⟨_, rfl, hB.1, hB.2.2, hR, (hF0.symm.trans (hF.trans (by rw [tk_m1])))⟩ dX12_asks_23

set_option maxHeartbeats 4000000 in
set_option maxRecDepth 100000 in
theorem c_X12_bare (l : Launch) (G : th_G) (Γ : th_Ga) (H0 : Heap) (hI : th_I G Γ H0) (hU : dv_U Γ) (a0 : Nat) (h0 : Γ a0 = (46, 0)) (hR : th_RK a0 G Γ H0) (p1 : Int32) : Met l yX12_bare (.code yX12_bare cX12_bare 3 (some FieldType.int) :: th_tb) ({ frames := 2, cells := 0, slots := 0, locals := 45 } : Room) (th_P [.ref a0, .int p1] G H0) (th_Q (fun (v : Option Value) (H1 : Heap) => ∃ r : Int32, v = some (.int r) ∧ th_I G Γ H1 ∧ th_F G Γ [(59, 0)] H0 H1 ∧ th_RK a0 G Γ H1 ∧ (f_X12_bare (dv G Γ H0) (a0 : Int) p1.toInt = (dv G Γ H1, r.toInt))) G) 0 0 (fun q => G.2.2 ≤ q) := by
  refine th_met RX12 (by decide) rfl (Nat.le_of_ble_eq_true rfl) ?_
  intro p e s m below meth c hC hH hr hlocks hnm ls hl
  have hx := hC.1
  have hb := hC.2.1
  have hB : th_B G Γ Γ [(59, 0)] H0 H0 [] := ⟨hI, va_S.rf, th_F_rf⟩
  have hl : lv_has ls 3 [(0, .ref a0), (1, .int p1)] := hl
  have lp1 := ti_lo p1; have up1 := ti_hi p1
  obtain ⟨F, hF0⟩ : ∃ F, F = f_X12_bare (dv G Γ H0) ((a0 : Int)) (p1.toInt) := ⟨_, rfl⟩
  have hF := hF0.trans (f_X12_bare.eq_1 (dv G Γ H0) ((a0 : Int)) (p1.toInt))
  refine lv_iload_n hx hb dX12_bare_0 rfl (lv_at hl 1 rfl) ?_
  refine lv_iconst (v := 0) hx hb dX12_bare_1 (by decide) ?_
  refine lv_iconst (v := 2) hx hb dX12_bare_2 (by decide) ?_
  refine th_call (th_runS (As := [.int p1, .int 0, .int 2]) (rest := []) hC mf_X12_lies km_X12_18 st_X12_lies (c_X12_lies l G Γ H0 hB.1 hU p1 0 2) rfl rfl ⟨Nat.le_of_ble_eq_true rfl, Nat.le_of_ble_eq_true rfl⟩ rfl hl.1 rfl (Nat.le_of_ble_eq_true rfl) dX12_bare_3 ⟨Nat.le_refl _, Nat.le_refl _⟩) hB.2.1 (fun v3 H3 locs hp hz hS => ?_)
  obtain ⟨x1, rfl, lx1, ux1, q3_0, q3_1, q3_2, rfl⟩ := hp
  have hB := th_B_s hB hS
  have w3_1 := tk_0
  have w3_2 := tk_2
  have zf3 := q3_2
  rw [tk_0, tk_2] at zf3
  replace hF := hF.trans (dv_bn2 (zf3))
  refine W.eq (g2 := F0 m 6 ls [.int x1]) rfl ?_
  refine tr_if_ne (tgt := 11) hx hb dX12_bare_6 (by decide) (Eq.refl _) (fun c6 => ?_) (fun c6 => ?_)
  · replace hF := hF.trans (if_pos c6)
    refine lv_iload_n hx hb dX12_bare_11 rfl (lv_at hl 1 rfl) ?_
    refine tr_if_ne (tgt := 20) hx hb dX12_bare_12 (by decide) (Eq.refl _) (fun c12 => ?_) (fun c12 => ?_)
    · replace hF := hF.trans (if_pos c12)
      refine lv_aload_n hx hb dX12_bare_20 rfl (lv_at hl 0 rfl) ?_
      refine th_call (th_runV (As := []) (rest := []) hC mf_X12_laysCovered km_X12_351 im_X12_laysCovered se_X12_laysCovered (c_X12_laysCovered l G Γ H0 hB.1 hU a0 h0 hR) rfl rfl ⟨Nat.le_of_ble_eq_true rfl, Nat.le_of_ble_eq_true rfl⟩ hB.1 h0 ro_46 rfl rfl hl.1 rfl (Nat.le_of_ble_eq_true rfl) dX12_bare_21 ⟨Nat.le_refl _, Nat.le_refl _⟩) hB.2.1 (fun v21 H21 locs hp hz hS => ?_)
      obtain ⟨rfl, hI1, hf, hR, z21_0, z21_1⟩ := hp
      have hB := th_B_c hB hI1 hS hf (by decide)
      replace hF := hF.trans (dv_bn2 (z21_1))
      refine W.eq (g2 := F0 m 24 ls []) rfl ?_
      refine lv_aload_n hx hb dX12_bare_24 rfl (lv_at hl 0 rfl) ?_
      refine lv_aload_n hx hb dX12_bare_25 rfl (lv_at hl 0 rfl) ?_
      refine th_getO (j := 2) (r2 := 48) hC cf_X12 hB.1 h0 ro_46 rfl rfl kf_X12_28 dX12_bare_26 (fun b2 mb2 hb2 => ?_)
      have sb2 := (th_F_o hB.2.2 h0 ro_46 (j := 2) (by decide) (by decide)).symm.trans mb2
      refine lv_bipush (v := 67) hx hb dX12_bare_29 (by decide) ?_
      refine th_ialdF hC hB.1 hb2 ro_48 rfl tk_67 (by omega) (by omega) (ek_hall (by omega) (by omega)) dX12_bare_31 (fun x3 mx3 lx3 ux3 => ?_)
      replace hF := hF.trans (dv_bn (dv_aldI hB.1 hU hb2 ow_48 (z := 67) mx3 (by omega)))
      refine lv_aload_n hx hb dX12_bare_32 rfl (lv_at hl 0 rfl) ?_
      refine th_getK hC cf_X12 hB.1 h0 ro_46 rfl (j := 2) (by decide) mb2 kf_X12_28 dX12_bare_33 ?_
      refine lv_bipush (v := 68) hx hb dX12_bare_36 (by decide) ?_
      refine th_ialdF hC hB.1 hb2 ro_48 rfl tk_68 (by omega) (by omega) (ek_hall (by omega) (by omega)) dX12_bare_38 (fun x4 mx4 lx4 ux4 => ?_)
      replace hF := hF.trans (dv_bn (dv_aldI hB.1 hU hb2 ow_48 (z := 68) mx4 (by omega)))
      refine th_call (th_runV (As := [.int x3, .int x4]) (rest := []) hC mf_X12_firstBare km_X12_354 im_X12_firstBare se_X12_firstBare (c_X12_firstBare l G Γ H21 hB.1 hU a0 h0 x3 (by omega) (by omega) x4 (by omega) (by omega)) rfl rfl ⟨Nat.le_of_ble_eq_true rfl, Nat.le_of_ble_eq_true rfl⟩ hB.1 h0 ro_46 rfl rfl hl.1 rfl (Nat.le_of_ble_eq_true rfl) dX12_bare_39 ⟨Nat.le_refl _, Nat.le_refl _⟩) hB.2.1 (fun v39 H39 locs hp hz hS => ?_)
      obtain ⟨x5, rfl, lx5, ux5, q39_0, rfl⟩ := hp
      have hB := th_B_s hB hS
      replace hF := hF.trans (dv_bn2 (q39_0))
      refine W.eq (g2 := F0 m 42 ls [.int x5]) rfl ?_
      refine lv_istore_n (lv' := [(2, .int x5), (0, .ref a0), (1, .int p1)]) hx hb dX12_bare_42 rfl hl (by decide) rfl (fun ls hl => ?_)
      refine lv_iload_n hx hb dX12_bare_43 rfl (lv_at hl 0 rfl) ?_
      refine lv_iconst (v := (-1)) hx hb dX12_bare_44 (by decide) ?_
      refine tr_icmp_ne (tgt := 52) hx hb dX12_bare_45 (by decide) (Eq.refl _) tk_m1 (fun c45 => ?_) (fun c45 => ?_)
      · replace hF := hF.trans (if_pos c45)
        refine lv_iload_n hx hb dX12_bare_52 rfl (lv_at hl 2 rfl) ?_
        refine lv_iconst (v := 1) hx hb dX12_bare_53 (by decide) ?_
        refine tr_icmp_ne (tgt := 64) hx hb dX12_bare_54 (by decide) (Eq.refl _) tk_1 (fun c54 => ?_) (fun c54 => ?_)
        · replace hF := hF.trans (if_pos c54)
          refine lv_iload_n hx hb dX12_bare_64 rfl (lv_at hl 0 rfl) ?_
          refine lv_bipush (v := 12) hx hb dX12_bare_65 (by decide) ?_
          refine tr_idiv hx hb dX12_bare_67 (Eq.refl _) tk_12 (by omega) (by omega) (fun x6 ex6 => ?_)
          replace hF := hF.trans (dv_bn (ex6.symm))
          exact th_iret hC hH hr hlocks rfl hB.2.1 ⟨_, rfl, hB.1, hB.2.2, hR, (hF0.symm.trans hF)⟩ dX12_bare_68
        · replace hF := hF.trans (if_neg (not_not_intro c54))
          refine lv_iload_n hx hb dX12_bare_57 rfl (lv_at hl 0 rfl) ?_
          refine lv_bipush (v := 12) hx hb dX12_bare_58 (by decide) ?_
          refine tr_irem hx hb dX12_bare_60 (Eq.refl _) tk_12 (by omega) (by omega) (fun x7 ex7 => ?_)
          replace hF := hF.trans (dv_bn (ex7.symm))
          refine lv_goto (tgt := 68) hx hb dX12_bare_61 (by decide) ?_
          exact th_iret hC hH hr hlocks rfl hB.2.1 ⟨_, rfl, hB.1, hB.2.2, hR, (hF0.symm.trans hF)⟩ dX12_bare_68
      · replace hF := hF.trans (if_neg (not_not_intro c45))
        refine lv_iconst (v := (-1)) hx hb dX12_bare_48 (by decide) ?_
        refine lv_goto (tgt := 68) hx hb dX12_bare_49 (by decide) ?_
        exact th_iret hC hH hr hlocks rfl hB.2.1 ⟨_, rfl, hB.1, hB.2.2, hR, (hF0.symm.trans (hF.trans (by rw [tk_m1])))⟩ dX12_bare_68
    · replace hF := hF.trans (if_neg (not_not_intro c12))
      refine lv_aload_n hx hb dX12_bare_15 rfl (lv_at hl 0 rfl) ?_
      refine th_call (th_runV (As := []) (rest := []) hC mf_X12_bareMany km_X12_323 im_X12_bareMany se_X12_bareMany (c_X12_bareMany l G Γ H0 hB.1 hU a0 h0) rfl rfl ⟨Nat.le_of_ble_eq_true rfl, Nat.le_of_ble_eq_true rfl⟩ hB.1 h0 ro_46 rfl rfl hl.1 rfl (Nat.le_of_ble_eq_true rfl) dX12_bare_16 ⟨Nat.le_refl _, Nat.le_refl _⟩) hB.2.1 (fun v16 H16 locs hp hz hS => ?_)
      obtain ⟨x8, rfl, lx8, ux8, q16_0, q16_1, rfl⟩ := hp
      have hB := th_B_s hB hS
      replace hF := hF.trans (dv_bn2 (q16_1))
      refine W.eq (g2 := F0 m 19 ls [.int x8]) rfl ?_
      exact th_iret hC hH hr hlocks rfl hB.2.1 ⟨_, rfl, hB.1, hB.2.2, hR, (hF0.symm.trans hF)⟩ dX12_bare_19
  · replace hF := hF.trans (if_neg (not_not_intro c6))
    refine lv_iconst (v := (-1)) hx hb dX12_bare_9 (by decide) ?_
    exact th_iret hC hH hr hlocks rfl hB.2.1 ⟨_, rfl, hB.1, hB.2.2, hR, (hF0.symm.trans (hF.trans (by rw [tk_m1])))⟩ dX12_bare_10

set_option maxHeartbeats 4000000 in
set_option maxRecDepth 100000 in
theorem c_X12_fitting (l : Launch) (G : th_G) (Γ : th_Ga) (H0 : Heap) (hI : th_I G Γ H0) (hU : dv_U Γ) (a0 : Nat) (h0 : Γ a0 = (46, 0)) (hR : th_RK a0 G Γ H0) (p1 : Int32) : Met l yX12_fitting (.code yX12_fitting cX12_fitting 5 (some FieldType.int) :: th_tb) ({ frames := 2, cells := 0, slots := 0, locals := 45 } : Room) (th_P [.ref a0, .int p1] G H0) (th_Q (fun (v : Option Value) (H1 : Heap) => ∃ r : Int32, v = some (.int r) ∧ th_I G Γ H1 ∧ th_F G Γ [(59, 0)] H0 H1 ∧ th_RK a0 G Γ H1 ∧ (f_X12_fitting (dv G Γ H0) (a0 : Int) p1.toInt = (dv G Γ H1, r.toInt))) G) 0 0 (fun q => G.2.2 ≤ q) := by
  refine th_met RX12 (by decide) rfl (Nat.le_of_ble_eq_true rfl) ?_
  intro p e s m below meth c hC hH hr hlocks hnm ls hl
  have hx := hC.1
  have hb := hC.2.1
  have hB : th_B G Γ Γ [(59, 0)] H0 H0 [] := ⟨hI, va_S.rf, th_F_rf⟩
  have hl : lv_has ls 5 [(0, .ref a0), (1, .int p1)] := hl
  have lp1 := ti_lo p1; have up1 := ti_hi p1
  obtain ⟨F, hF0⟩ : ∃ F, F = f_X12_fitting (dv G Γ H0) ((a0 : Int)) (p1.toInt) := ⟨_, rfl⟩
  have hF := hF0.trans (f_X12_fitting.eq_1 (dv G Γ H0) ((a0 : Int)) (p1.toInt))
  refine lv_iload_n hx hb dX12_fitting_0 rfl (lv_at hl 1 rfl) ?_
  refine th_call (th_runS (As := [.int p1]) (rest := []) hC mf_X12_isSide km_X12_119 st_X12_isSide (c_X12_isSide l G Γ H0 hB.1 hU p1) rfl rfl ⟨Nat.le_of_ble_eq_true rfl, Nat.le_of_ble_eq_true rfl⟩ rfl hl.1 rfl (Nat.le_of_ble_eq_true rfl) dX12_fitting_1 ⟨Nat.le_refl _, Nat.le_refl _⟩) hB.2.1 (fun v1 H1 locs hp hz hS => ?_)
  obtain ⟨x1, rfl, lx1, ux1, q1_0, q1_1, rfl⟩ := hp
  have hB := th_B_s hB hS
  replace hF := hF.trans (dv_bn2 (q1_1))
  refine W.eq (g2 := F0 m 4 ls [.int x1]) rfl ?_
  refine tr_if_ne (tgt := 9) hx hb dX12_fitting_4 (by decide) (Eq.refl _) (fun c4 => ?_) (fun c4 => ?_)
  · replace hF := hF.trans (if_pos c4)
    refine lv_aload_n hx hb dX12_fitting_9 rfl (lv_at hl 0 rfl) ?_
    refine th_call (th_runV (As := []) (rest := []) hC mf_X12_laysCovered km_X12_351 im_X12_laysCovered se_X12_laysCovered (c_X12_laysCovered l G Γ H0 hB.1 hU a0 h0 hR) rfl rfl ⟨Nat.le_of_ble_eq_true rfl, Nat.le_of_ble_eq_true rfl⟩ hB.1 h0 ro_46 rfl rfl hl.1 rfl (Nat.le_of_ble_eq_true rfl) dX12_fitting_10 ⟨Nat.le_refl _, Nat.le_refl _⟩) hB.2.1 (fun v10 H10 locs hp hz hS => ?_)
    obtain ⟨rfl, hI1, hf, hR, z10_0, z10_1⟩ := hp
    have hB := th_B_c hB hI1 hS hf (by decide)
    replace hF := hF.trans (dv_bn2 (z10_1))
    refine W.eq (g2 := F0 m 13 ls []) rfl ?_
    refine lv_iconst (v := 0) hx hb dX12_fitting_13 (by decide) ?_
    refine lv_istore_n (lv' := [(2, .int 0), (0, .ref a0), (1, .int p1)]) hx hb dX12_fitting_14 rfl hl (by decide) rfl (fun ls hl => ?_)
    refine lv_iconst (v := 0) hx hb dX12_fitting_15 (by decide) ?_
    refine lv_istore_n (lv' := [(3, .int 0), (2, .int 0), (0, .ref a0), (1, .int p1)]) hx hb dX12_fitting_16 rfl hl (by decide) rfl (fun ls hl => ?_)
    have lp17 : ∀ (n17 : Nat) (locs : List Loc) (ls : Array Slot) (j17_2 : Int32) (j17_3 : Int32), th_B G Γ Γ [(59, 0)] H0 H10 locs → lv_has ls 5 [(0, .ref a0), (1, .int p1), (2, .int j17_2), (3, .int j17_3)] → F = dv_lp f_X12_fitting_17b (dv G Γ H10, (a0 : Int), p1.toInt, j17_2.toInt, j17_3.toInt) → 0 ≤ j17_3.toInt → j17_3.toInt ≤ 12 → (2147483648 : Int) - j17_3.toInt ≤ (n17 : Int) → W p l e ({ frames := 2, cells := 0, slots := 0, locals := 45 } : Room) s m ([.ref a0, .int p1] : List Value).toArray below meth c H10 locs 0 0 (MQ below (th_Q (fun (v : Option Value) (H1 : Heap) => ∃ r : Int32, v = some (.int r) ∧ th_I G Γ H1 ∧ th_F G Γ [(59, 0)] H0 H1 ∧ th_RK a0 G Γ H1 ∧ (f_X12_fitting (dv G Γ H0) (a0 : Int) p1.toInt = (dv G Γ H1, r.toInt))) G) ([.ref a0, .int p1] : List Value).toArray s 0 0 (fun q => G.2.2 ≤ q)) (F0 m 17 ls []) := by
      intro n17
      induction n17 with
      | zero => intro locs ls j17_2 j17_3 hB hl hF g17_0 g17_1 hm17; exact absurd hm17 (by have := ti_hi j17_3; omega)
      | succ n17 ih17 =>
        intro locs ls j17_2 j17_3 hB hl hF g17_0 g17_1 hm17
        have lj17_2 := ti_lo j17_2; have uj17_2 := ti_hi j17_2
        have lj17_3 := ti_lo j17_3; have uj17_3 := ti_hi j17_3
        have hm17 : (2147483648 : Int) - j17_3.toInt ≤ (n17 : Int) + 1 := by omega
        replace hF := hF.trans (dv_lp_eq)
        replace hF := hF.trans (congrArg (dv_k f_X12_fitting_17b) (f_X12_fitting_17c.eq_1 (dv G Γ H10) ((a0 : Int)) (p1.toInt) (j17_2.toInt) (j17_3.toInt)))
        refine lv_iload_n hx hb dX12_fitting_17 rfl (lv_at hl 3 rfl) ?_
        refine lv_aload_n hx hb dX12_fitting_18 rfl (lv_at hl 0 rfl) ?_
        refine th_getO (j := 2) (r2 := 48) hC cf_X12 hB.1 h0 ro_46 rfl rfl kf_X12_28 dX12_fitting_19 (fun b2 mb2 hb2 => ?_)
        have sb2 := (th_F_o hB.2.2 h0 ro_46 (j := 2) (by decide) (by decide)).symm.trans mb2
        refine lv_bipush (v := 67) hx hb dX12_fitting_22 (by decide) ?_
        refine th_ialdF hC hB.1 hb2 ro_48 rfl tk_67 (by omega) (by omega) (ek_hall (by omega) (by omega)) dX12_fitting_24 (fun x3 mx3 lx3 ux3 => ?_)
        replace hF := hF.trans (congrArg (dv_k f_X12_fitting_17b) (dv_bn (dv_aldI hB.1 hU hb2 ow_48 (z := 67) mx3 (by omega))))
        refine tr_icmp_ge (tgt := 88) hx hb dX12_fitting_25 (by decide) (Eq.refl _) (Eq.refl _) (fun c25 => ?_) (fun c25 => ?_)
        · replace hF := hF.trans (congrArg (dv_k f_X12_fitting_17b) (if_pos c25))
          refine lv_iload_n hx hb dX12_fitting_88 rfl (lv_at hl 2 rfl) ?_
          replace hF := hF.trans (dv_kr)
          exact th_iret hC hH hr hlocks rfl hB.2.1 ⟨_, rfl, hB.1, hB.2.2, hR, (hF0.symm.trans hF)⟩ dX12_fitting_89
        · replace hF := hF.trans (congrArg (dv_k f_X12_fitting_17b) (if_neg (Int.not_le.mpr c25)))
          refine lv_iconst (v := 0) hx hb dX12_fitting_28 (by decide) ?_
          refine lv_istore (lv' := [(4, .int 0), (0, .ref a0), (1, .int p1), (2, .int j17_2), (3, .int j17_3)]) hx hb dX12_fitting_29 hl (by decide) rfl (fun ls hl => ?_)
          have lp31 : ∀ (n31 : Nat) (locs : List Loc) (ls : Array Slot) (j31_2 : Int32) (j31_4 : Int32), th_B G Γ Γ [(59, 0)] H0 H10 locs → lv_has ls 5 [(0, .ref a0), (1, .int p1), (3, .int j17_3), (2, .int j31_2), (4, .int j31_4)] → F = dv_k f_X12_fitting_17b (dv_lp f_X12_fitting_31b (dv G Γ H10, (a0 : Int), p1.toInt, j17_3.toInt, j31_2.toInt, j31_4.toInt)) → 0 ≤ j31_4.toInt → j31_4.toInt ≤ 12 → (2147483648 : Int) - j31_4.toInt ≤ (n31 : Int) → W p l e ({ frames := 2, cells := 0, slots := 0, locals := 45 } : Room) s m ([.ref a0, .int p1] : List Value).toArray below meth c H10 locs 0 0 (MQ below (th_Q (fun (v : Option Value) (H1 : Heap) => ∃ r : Int32, v = some (.int r) ∧ th_I G Γ H1 ∧ th_F G Γ [(59, 0)] H0 H1 ∧ th_RK a0 G Γ H1 ∧ (f_X12_fitting (dv G Γ H0) (a0 : Int) p1.toInt = (dv G Γ H1, r.toInt))) G) ([.ref a0, .int p1] : List Value).toArray s 0 0 (fun q => G.2.2 ≤ q)) (F0 m 31 ls []) := by
            intro n31
            induction n31 with
            | zero => intro locs ls j31_2 j31_4 hB hl hF g31_0 g31_1 hm31; exact absurd hm31 (by have := ti_hi j31_4; omega)
            | succ n31 ih31 =>
              intro locs ls j31_2 j31_4 hB hl hF g31_0 g31_1 hm31
              have lj31_2 := ti_lo j31_2; have uj31_2 := ti_hi j31_2
              have lj31_4 := ti_lo j31_4; have uj31_4 := ti_hi j31_4
              have hm31 : (2147483648 : Int) - j31_4.toInt ≤ (n31 : Int) + 1 := by omega
              replace hF := hF.trans (congrArg (dv_k f_X12_fitting_17b) (dv_lp_eq))
              replace hF := hF.trans (congrArg (dv_k f_X12_fitting_17b) (congrArg (dv_k f_X12_fitting_31b) (f_X12_fitting_31c.eq_1 (dv G Γ H10) ((a0 : Int)) (p1.toInt) (j17_3.toInt) (j31_2.toInt) (j31_4.toInt))))
              refine lv_iload hx hb dX12_fitting_31 (lv_at hl 4 rfl) ?_
              refine lv_aload_n hx hb dX12_fitting_33 rfl (lv_at hl 0 rfl) ?_
              refine th_getK hC cf_X12 hB.1 h0 ro_46 rfl (j := 2) (by decide) mb2 kf_X12_28 dX12_fitting_34 ?_
              refine lv_bipush (v := 68) hx hb dX12_fitting_37 (by decide) ?_
              refine th_ialdF hC hB.1 hb2 ro_48 rfl tk_68 (by omega) (by omega) (ek_hall (by omega) (by omega)) dX12_fitting_39 (fun x4 mx4 lx4 ux4 => ?_)
              replace hF := hF.trans (congrArg (dv_k f_X12_fitting_17b) (congrArg (dv_k f_X12_fitting_31b) (dv_bn (dv_aldI hB.1 hU hb2 ow_48 (z := 68) mx4 (by omega)))))
              refine tr_icmp_ge (tgt := 82) hx hb dX12_fitting_40 (by decide) (Eq.refl _) (Eq.refl _) (fun c40 => ?_) (fun c40 => ?_)
              · replace hF := hF.trans (congrArg (dv_k f_X12_fitting_17b) (congrArg (dv_k f_X12_fitting_31b) (if_pos c40)))
                refine tr_iinc (fun x5 => [(3, .int x5), (0, .ref a0), (1, .int p1), (2, .int j31_2), (4, .int j31_4)]) hx hb dX12_fitting_82 hl (k := 2) rfl (Eq.refl _) tk_1 (by omega) (by omega) (by decide) (fun _ => rfl) (fun x5 ls ex5 hl => ?_)
                replace hF := hF.trans (congrArg (dv_k f_X12_fitting_17b) (congrArg (dv_k f_X12_fitting_31b) (dv_bn (ex5.symm))))
                refine lv_goto (tgt := 17) hx hb dX12_fitting_85 (by decide) ?_
                replace hF := hF.trans (congrArg (dv_k f_X12_fitting_17b) (dv_kr))
                replace hF := hF.trans (dv_kl)
                exact ih17 locs ls j31_2 x5 hB (lv_sub hl [1, 2, 3, 0] rfl) hF (by omega) (by omega) (by omega)
              · replace hF := hF.trans (congrArg (dv_k f_X12_fitting_17b) (congrArg (dv_k f_X12_fitting_31b) (if_neg (Int.not_le.mpr c40))))
                refine lv_iload_n hx hb dX12_fitting_43 rfl (lv_at hl 3 rfl) ?_
                refine lv_aload_n hx hb dX12_fitting_44 rfl (lv_at hl 0 rfl) ?_
                refine lv_iload_n hx hb dX12_fitting_45 rfl (lv_at hl 1 rfl) ?_
                refine lv_iload_n hx hb dX12_fitting_46 rfl (lv_at hl 2 rfl) ?_
                refine lv_iload hx hb dX12_fitting_47 (lv_at hl 4 rfl) ?_
                refine lv_aload_n hx hb dX12_fitting_49 rfl (lv_at hl 0 rfl) ?_
                refine th_getK hC cf_X12 hB.1 h0 ro_46 rfl (j := 2) (by decide) mb2 kf_X12_28 dX12_fitting_50 ?_
                refine lv_bipush (v := 67) hx hb dX12_fitting_53 (by decide) ?_
                refine th_ialdF hC hB.1 hb2 ro_48 rfl tk_67 (by omega) (by omega) (ek_hall (by omega) (by omega)) dX12_fitting_55 (fun x6 mx6 lx6 ux6 => ?_)
                replace hF := hF.trans (congrArg (dv_k f_X12_fitting_17b) (congrArg (dv_k f_X12_fitting_31b) (dv_bn (dv_aldI hB.1 hU hb2 ow_48 (z := 67) mx6 (by omega)))))
                have qx6 : x6.toInt = x3.toInt := by rw [show x6 = x3 from Value.int.inj (mx6.symm.trans mx3)]
                refine lv_aload_n hx hb dX12_fitting_56 rfl (lv_at hl 0 rfl) ?_
                refine th_getK hC cf_X12 hB.1 h0 ro_46 rfl (j := 2) (by decide) mb2 kf_X12_28 dX12_fitting_57 ?_
                refine lv_bipush (v := 68) hx hb dX12_fitting_60 (by decide) ?_
                refine th_ialdF hC hB.1 hb2 ro_48 rfl tk_68 (by omega) (by omega) (ek_hall (by omega) (by omega)) dX12_fitting_62 (fun x7 mx7 lx7 ux7 => ?_)
                replace hF := hF.trans (congrArg (dv_k f_X12_fitting_17b) (congrArg (dv_k f_X12_fitting_31b) (dv_bn (dv_aldI hB.1 hU hb2 ow_48 (z := 68) mx7 (by omega)))))
                have qx7 : x7.toInt = x4.toInt := by rw [show x7 = x4 from Value.int.inj (mx7.symm.trans mx4)]
                refine th_call (th_runV (As := [.int p1, .int j17_3, .int j31_4, .int x6, .int x7]) (rest := [.int j31_2]) hC mf_X12_isFree km_X12_360 im_X12_isFree se_X12_isFree (c_X12_isFree l G Γ H10 hB.1 hU a0 h0 p1 (by omega) (by omega) j17_3 (by omega) (by omega) j31_4 (by omega) (by omega) x6 (by omega) (by omega) x7 (by omega) (by omega)) rfl rfl ⟨Nat.le_of_ble_eq_true rfl, Nat.le_of_ble_eq_true rfl⟩ hB.1 h0 ro_46 rfl rfl hl.1 rfl (Nat.le_of_ble_eq_true rfl) dX12_fitting_63 ⟨Nat.le_refl _, Nat.le_refl _⟩) hB.2.1 (fun v63 H63 locs hp hz hS => ?_)
                obtain ⟨x8, rfl, lx8, ux8, q63_0, q63_1, q63_2, rfl⟩ := hp
                have hB := th_B_s hB hS
                replace hF := hF.trans (congrArg (dv_k f_X12_fitting_17b) (congrArg (dv_k f_X12_fitting_31b) (dv_bn2 (q63_2))))
                refine W.eq (g2 := F0 m 66 ls [.int x8, .int j31_2]) rfl ?_
                have jn74 : ∀ (locs : List Loc) (ls : Array Slot) (s74_1 : Int32), th_B G Γ Γ [(59, 0)] H0 H10 locs → lv_has ls 5 [(0, .ref a0), (1, .int p1), (3, .int j17_3), (4, .int j31_4)] → F = dv_k f_X12_fitting_17b (dv_k f_X12_fitting_31b (f_X12_fitting_74 (dv G Γ H10) ((a0 : Int)) (p1.toInt) (j17_3.toInt) (j31_4.toInt) (j31_2.toInt) (s74_1.toInt))) → 0 ≤ s74_1.toInt → s74_1.toInt ≤ 1 → W p l e ({ frames := 2, cells := 0, slots := 0, locals := 45 } : Room) s m ([.ref a0, .int p1] : List Value).toArray below meth c H10 locs 0 0 (MQ below (th_Q (fun (v : Option Value) (H1 : Heap) => ∃ r : Int32, v = some (.int r) ∧ th_I G Γ H1 ∧ th_F G Γ [(59, 0)] H0 H1 ∧ th_RK a0 G Γ H1 ∧ (f_X12_fitting (dv G Γ H0) (a0 : Int) p1.toInt = (dv G Γ H1, r.toInt))) G) ([.ref a0, .int p1] : List Value).toArray s 0 0 (fun q => G.2.2 ≤ q)) (F0 m 74 ls [.int s74_1, .int j31_2]) := by
                  intro locs ls s74_1 hB hl hF g74_0 g74_1
                  have ls74_1 := ti_lo s74_1; have us74_1 := ti_hi s74_1
                  replace hF := hF.trans (congrArg (dv_k f_X12_fitting_17b) (congrArg (dv_k f_X12_fitting_31b) (f_X12_fitting_74.eq_1 (dv G Γ H10) ((a0 : Int)) (p1.toInt) (j17_3.toInt) (j31_4.toInt) (j31_2.toInt) (s74_1.toInt))))
                  refine lv_iadd hx hb dX12_fitting_74 ?_
                  refine lv_topi (fun x9 ex9 => ?_)
                  have lx9 := ti_lo x9; have ux9 := ti_hi x9
                  replace hF := hF.trans (congrArg (dv_k f_X12_fitting_17b) (congrArg (dv_k f_X12_fitting_31b) (dv_bn (dv_add_e (Eq.refl _) (Eq.refl _) ex9))))
                  refine lv_istore_n (lv' := [(2, .int x9), (0, .ref a0), (1, .int p1), (3, .int j17_3), (4, .int j31_4)]) hx hb dX12_fitting_75 rfl hl (by decide) rfl (fun ls hl => ?_)
                  refine tr_iinc (fun x10 => [(4, .int x10), (2, .int x9), (0, .ref a0), (1, .int p1), (3, .int j17_3)]) hx hb dX12_fitting_76 hl (k := 4) rfl (Eq.refl _) tk_1 (by omega) (by omega) (by decide) (fun _ => rfl) (fun x10 ls ex10 hl => ?_)
                  replace hF := hF.trans (congrArg (dv_k f_X12_fitting_17b) (congrArg (dv_k f_X12_fitting_31b) (dv_bn (ex10.symm))))
                  refine lv_goto (tgt := 31) hx hb dX12_fitting_79 (by decide) ?_
                  replace hF := hF.trans (congrArg (dv_k f_X12_fitting_17b) (dv_kl))
                  exact ih31 locs ls x9 x10 hB (lv_sub hl [2, 3, 4, 1, 0] rfl) hF (by omega) (by omega) (by omega)
                refine tr_if_eq (tgt := 73) hx hb dX12_fitting_66 (by decide) (Eq.refl _) (fun c66 => ?_) (fun c66 => ?_)
                · replace hF := hF.trans (congrArg (dv_k f_X12_fitting_17b) (congrArg (dv_k f_X12_fitting_31b) (if_pos c66)))
                  refine lv_iconst (v := 0) hx hb dX12_fitting_73 (by decide) ?_
                  exact jn74 locs ls 0 hB (lv_sub hl [0, 1, 2, 4] rfl) (by rw [tk_0]; exact hF) (by decide) (by decide)
                · replace hF := hF.trans (congrArg (dv_k f_X12_fitting_17b) (congrArg (dv_k f_X12_fitting_31b) (if_neg c66)))
                  refine lv_iconst (v := 1) hx hb dX12_fitting_69 (by decide) ?_
                  refine lv_goto (tgt := 74) hx hb dX12_fitting_70 (by decide) ?_
                  exact jn74 locs ls 1 hB (lv_sub hl [0, 1, 2, 4] rfl) (by rw [tk_1]; exact hF) (by decide) (by decide)
          exact lp31 ((2147483648 : Int) - (0)).toNat locs ls j17_2 0 hB (lv_sub hl [1, 2, 4, 3, 0] rfl) (by rw [tk_0]; exact hF) (by decide) (by decide) (by have w0 := tk_0; omega)
    exact lp17 ((2147483648 : Int) - (0)).toNat locs ls 0 0 hB (lv_sub hl [2, 3, 1, 0] rfl) (by rw [tk_0]; exact hF) (by decide) (by decide) (by have w0 := tk_0; omega)
  · replace hF := hF.trans (if_neg (not_not_intro c4))
    refine lv_iconst (v := (-1)) hx hb dX12_fitting_7 (by decide) ?_
    exact th_iret hC hH hr hlocks rfl hB.2.1 ⟨_, rfl, hB.1, hB.2.2, hR, (hF0.symm.trans (hF.trans (by rw [tk_m1])))⟩ dX12_fitting_8
