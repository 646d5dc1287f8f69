set_option maxHeartbeats 4000000 in
set_option maxRecDepth 100000 in
theorem c_X12_wordOf (l : Launch) (G : th_G) (Γ : th_Ga) (H0 : Heap) (hI : th_I G Γ H0) (hU : dv_U Γ) (a0 : Nat) (h0 : Γ a0 = (46, 0)) (p1 : Int32) (f1 : 0 ≤ p1.toInt) (g1 : p1.toInt ≤ 400) (p2 : Int32) (f2 : 0 ≤ p2.toInt) (g2 : p2.toInt ≤ 400) : Met l yX12_wordOf (.code yX12_wordOf cX12_wordOf 8 (some FieldType.int) :: th_tb) ({ frames := 0, cells := 0, slots := 0, locals := 0 } : Room) (th_P [.ref a0, .int p1, .int p2] G H0) (th_Q (fun (v : Option Value) (H1 : Heap) => ∃ r : Int32, v = some (.int r) ∧ (f_X12_wordOf (dv G Γ H0) (a0 : Int) p1.toInt p2.toInt = (r.toInt, ())) ∧ H0 = H1) G) 0 0 (fun q => G.2.2 ≤ q) := by
  refine th_met RX12 (by decide) rfl (Nat.le_of_ble_eq_true rfl) ?_
  intro p e s m below meth c hC hH hr hlocks hnm ls hl
  have hx := hC.1
  have hb := hC.2.1
  have hB : th_B G Γ Γ [] H0 H0 [] := ⟨hI, va_S.rf, th_F_rf⟩
  have hl : lv_has ls 8 [(0, .ref a0), (1, .int p1), (2, .int p2)] := hl
  have lp1 := ti_lo p1; have up1 := ti_hi p1
  have lp2 := ti_lo p2; have up2 := ti_hi p2
  obtain ⟨F, hF0⟩ : ∃ F, F = f_X12_wordOf (dv G Γ H0) ((a0 : Int)) (p1.toInt) (p2.toInt) := ⟨_, rfl⟩
  have hF := hF0.trans (f_X12_wordOf.eq_1 (dv G Γ H0) ((a0 : Int)) (p1.toInt) (p2.toInt))
  refine lv_iconst (v := 1) hx hb dX12_wordOf_0 (by decide) ?_
  refine lv_istore_n (lv' := [(3, .int 1), (0, .ref a0), (1, .int p1), (2, .int p2)]) hx hb dX12_wordOf_1 rfl hl (by decide) rfl (fun ls hl => ?_)
  refine lv_iconst (v := 0) hx hb dX12_wordOf_2 (by decide) ?_
  refine lv_istore (lv' := [(4, .int 0), (3, .int 1), (0, .ref a0), (1, .int p1), (2, .int p2)]) hx hb dX12_wordOf_3 hl (by decide) rfl (fun ls hl => ?_)
  have lp5 : ∀ (n5 : Nat) (locs : List Loc) (ls : Array Slot) (j5_3 : Int32) (j5_4 : Int32), th_B G Γ Γ [] H0 H0 locs → lv_has ls 8 [(0, .ref a0), (1, .int p1), (2, .int p2), (3, .int j5_3), (4, .int j5_4)] → F = dv_lp f_X12_wordOf_5b (dv G Γ H0, (a0 : Int), p1.toInt, p2.toInt, j5_3.toInt, j5_4.toInt) → 0 ≤ j5_4.toInt → j5_4.toInt ≤ 127 → (128 : Int) - j5_4.toInt ≤ (n5 : Int) → W p l e ({ frames := 0, cells := 0, slots := 0, locals := 0 } : Room) s m ([.ref a0, .int p1, .int p2] : List Value).toArray below meth c H0 locs 0 0 (MQ below (th_Q (fun (v : Option Value) (H1 : Heap) => ∃ r : Int32, v = some (.int r) ∧ (f_X12_wordOf (dv G Γ H0) (a0 : Int) p1.toInt p2.toInt = (r.toInt, ())) ∧ H0 = H1) G) ([.ref a0, .int p1, .int p2] : List Value).toArray s 0 0 (fun q => G.2.2 ≤ q)) (F0 m 5 ls []) := by
    intro n5
    induction n5 with
    | zero => intro locs ls j5_3 j5_4 hB hl hF g5_0 g5_1 hm5; exact absurd hm5 (by have := True.intro; omega)
    | succ n5 ih5 =>
      intro locs ls j5_3 j5_4 hB hl hF g5_0 g5_1 hm5
      have lj5_3 := ti_lo j5_3; have uj5_3 := ti_hi j5_3
      have lj5_4 := ti_lo j5_4; have uj5_4 := ti_hi j5_4
      have hm5 : (128 : Int) - j5_4.toInt ≤ (n5 : Int) + 1 := by omega
      replace hF := hF.trans (dv_lp_eq)
      replace hF := hF.trans (congrArg (dv_k f_X12_wordOf_5b) (f_X12_wordOf_5c.eq_1 (dv G Γ H0) ((a0 : Int)) (p1.toInt) (p2.toInt) (j5_3.toInt) (j5_4.toInt)))
      refine lv_iload hx hb dX12_wordOf_5 (lv_at hl 4 rfl) ?_
      refine lv_aload_n hx hb dX12_wordOf_7 rfl (lv_at hl 0 rfl) ?_
      refine th_getO (j := 7) (r2 := 52) hC cf_X12 hB.1 h0 ro_46 rfl rfl kf_X12_41 dX12_wordOf_8 (fun b1 mb1 hb1 => ?_)
      refine th_alen hC hB.1 hb1 ro_52 rfl (by decide) dX12_wordOf_11 (fun x2 ex2 lx2 ux2 => ?_)
      replace hF := hF.trans (congrArg (dv_k f_X12_wordOf_5b) (dv_bn ((show (127 : Int) = x2.toInt from by omega))))
      refine tr_icmp_ge (tgt := 126) hx hb dX12_wordOf_12 (by decide) (Eq.refl _) (Eq.refl _) (fun c12 => ?_) (fun c12 => ?_)
      · replace hF := hF.trans (congrArg (dv_k f_X12_wordOf_5b) (if_pos c12))
        refine lv_iconst (v := 0) hx hb dX12_wordOf_126 (by decide) ?_
        replace hF := hF.trans (dv_kr)
        exact th_iret hC hH hr hlocks rfl hB.2.1 ⟨_, rfl, (hF0.symm.trans (hF.trans (by rw [tk_0]))), rfl⟩ dX12_wordOf_127
      · replace hF := hF.trans (congrArg (dv_k f_X12_wordOf_5b) (if_neg (Int.not_le.mpr c12)))
        refine lv_iconst (v := 0) hx hb dX12_wordOf_15 (by decide) ?_
        refine lv_istore (lv' := [(5, .int 0), (0, .ref a0), (1, .int p1), (2, .int p2), (3, .int j5_3), (4, .int j5_4)]) hx hb dX12_wordOf_16 hl (by decide) rfl (fun ls hl => ?_)
        have lp18 : ∀ (n18 : Nat) (locs : List Loc) (ls : Array Slot) (j18_5 : Int32), th_B G Γ Γ [] H0 H0 locs → lv_has ls 8 [(0, .ref a0), (1, .int p1), (2, .int p2), (3, .int j5_3), (4, .int j5_4), (5, .int j18_5)] → F = dv_k f_X12_wordOf_5b (dv_lp f_X12_wordOf_18b (dv G Γ H0, (a0 : Int), p1.toInt, p2.toInt, j5_3.toInt, j5_4.toInt, j18_5.toInt)) → 0 ≤ j18_5.toInt → j18_5.toInt ≤ 126 → j5_4.toInt + j18_5.toInt ≤ 126 → (2147483648 : Int) - j18_5.toInt ≤ (n18 : Int) → W p l e ({ frames := 0, cells := 0, slots := 0, locals := 0 } : Room) s m ([.ref a0, .int p1, .int p2] : List Value).toArray below meth c H0 locs 0 0 (MQ below (th_Q (fun (v : Option Value) (H1 : Heap) => ∃ r : Int32, v = some (.int r) ∧ (f_X12_wordOf (dv G Γ H0) (a0 : Int) p1.toInt p2.toInt = (r.toInt, ())) ∧ H0 = H1) G) ([.ref a0, .int p1, .int p2] : List Value).toArray s 0 0 (fun q => G.2.2 ≤ q)) (F0 m 18 ls []) := by
          intro n18
          induction n18 with
          | zero => intro locs ls j18_5 hB hl hF g18_0 g18_1 g18_2 hm18; exact absurd hm18 (by have := ti_hi j18_5; omega)
          | succ n18 ih18 =>
            intro locs ls j18_5 hB hl hF g18_0 g18_1 g18_2 hm18
            have lj18_5 := ti_lo j18_5; have uj18_5 := ti_hi j18_5
            have hm18 : (2147483648 : Int) - j18_5.toInt ≤ (n18 : Int) + 1 := by omega
            replace hF := hF.trans (congrArg (dv_k f_X12_wordOf_5b) (dv_lp_eq))
            replace hF := hF.trans (congrArg (dv_k f_X12_wordOf_5b) (congrArg (dv_k f_X12_wordOf_18b) (f_X12_wordOf_18c.eq_1 (dv G Γ H0) ((a0 : Int)) (p1.toInt) (p2.toInt) (j5_3.toInt) (j5_4.toInt) (j18_5.toInt))))
            refine lv_aload_n hx hb dX12_wordOf_18 rfl (lv_at hl 0 rfl) ?_
            refine th_getK hC cf_X12 hB.1 h0 ro_46 rfl (j := 7) (by decide) mb1 kf_X12_41 dX12_wordOf_19 ?_
            refine lv_iload hx hb dX12_wordOf_22 (lv_at hl 4 rfl) ?_
            refine lv_iload hx hb dX12_wordOf_24 (lv_at hl 5 rfl) ?_
            refine tr_iadd hx hb dX12_wordOf_26 (Eq.refl _) (Eq.refl _) (by omega) (by omega) (fun x3 ex3 => ?_)
            replace hF := hF.trans (congrArg (dv_k f_X12_wordOf_5b) (congrArg (dv_k f_X12_wordOf_18b) (dv_bn (ex3.symm))))
            refine th_baldF (lo := th_wl.getD (x3.toInt).toNat 0) (hi := th_wl.getD (x3.toInt).toNat 0) hC hB.1 hb1 ro_52 rfl (Eq.refl _) (by omega) (by omega) rfl dX12_wordOf_27 (fun x4 mx4 lwx4 uwx4 => ?_)
            have lx4 := ti_lo x4; have ux4 := ti_hi x4
            replace hF := hF.trans (congrArg (dv_k f_X12_wordOf_5b) (congrArg (dv_k f_X12_wordOf_18b) (dv_bn (dv_aldI hB.1 hU hb1 ow_52 (z := x3.toInt) mx4 (by omega)))))
            refine lv_bipush (v := 32) hx hb dX12_wordOf_28 (by decide) ?_
            refine tr_icmp_eq (tgt := 39) hx hb dX12_wordOf_30 (by decide) (Eq.refl _) tk_32 (fun c30 => ?_) (fun c30 => ?_)
            · replace hF := hF.trans (congrArg (dv_k f_X12_wordOf_5b) (congrArg (dv_k f_X12_wordOf_18b) (if_pos c30)))
              refine lv_iload hx hb dX12_wordOf_39 (lv_at hl 5 rfl) ?_
              refine lv_iload_n hx hb dX12_wordOf_41 rfl (lv_at hl 2 rfl) ?_
              refine lv_iload_n hx hb dX12_wordOf_42 rfl (lv_at hl 1 rfl) ?_
              refine tr_isub hx hb dX12_wordOf_43 (Eq.refl _) (Eq.refl _) (by omega) (by omega) (fun x5 ex5 => ?_)
              replace hF := hF.trans (congrArg (dv_k f_X12_wordOf_5b) (congrArg (dv_k f_X12_wordOf_18b) (dv_bn (ex5.symm))))
              refine tr_icmp_ne (tgt := 51) hx hb dX12_wordOf_44 (by decide) (Eq.refl _) (Eq.refl _) (fun c44 => ?_) (fun c44 => ?_)
              · replace hF := hF.trans (congrArg (dv_k f_X12_wordOf_5b) (congrArg (dv_k f_X12_wordOf_18b) (if_pos c44)))
                refine lv_iconst (v := 0) hx hb dX12_wordOf_51 (by decide) ?_
                refine lv_istore (lv' := [(6, .int 0), (0, .ref a0), (1, .int p1), (2, .int p2), (3, .int j5_3), (4, .int j5_4), (5, .int j18_5)]) hx hb dX12_wordOf_52 hl (by decide) rfl (fun ls hl => ?_)
                refine lv_iconst (v := 0) hx hb dX12_wordOf_54 (by decide) ?_
                refine lv_istore (lv' := [(7, .int 0), (6, .int 0), (0, .ref a0), (1, .int p1), (2, .int p2), (3, .int j5_3), (4, .int j5_4), (5, .int j18_5)]) hx hb dX12_wordOf_55 hl (by decide) rfl (fun ls hl => ?_)
                have lp57 : ∀ (n57 : Nat) (locs : List Loc) (ls : Array Slot) (j57_6 : Int32) (j57_7 : Int32), th_B G Γ Γ [] H0 H0 locs → lv_has ls 8 [(0, .ref a0), (1, .int p1), (2, .int p2), (3, .int j5_3), (4, .int j5_4), (5, .int j18_5), (6, .int j57_6), (7, .int j57_7)] → F = dv_k f_X12_wordOf_5b (dv_k f_X12_wordOf_18b (dv_lp f_X12_wordOf_57b (dv G Γ H0, (a0 : Int), p1.toInt, p2.toInt, j5_3.toInt, j5_4.toInt, j18_5.toInt, j57_6.toInt, j57_7.toInt))) → 0 ≤ j57_6.toInt → j57_6.toInt ≤ 1 → 0 ≤ j57_7.toInt → j57_7.toInt ≤ 143 → (j57_6.toInt = 1 → j18_5.toInt = p2.toInt - p1.toInt) → (2147483648 : Int) - j57_7.toInt ≤ (n57 : Int) → W p l e ({ frames := 0, cells := 0, slots := 0, locals := 0 } : Room) s m ([.ref a0, .int p1, .int p2] : List Value).toArray below meth c H0 locs 0 0 (MQ below (th_Q (fun (v : Option Value) (H1 : Heap) => ∃ r : Int32, v = some (.int r) ∧ (f_X12_wordOf (dv G Γ H0) (a0 : Int) p1.toInt p2.toInt = (r.toInt, ())) ∧ H0 = H1) G) ([.ref a0, .int p1, .int p2] : List Value).toArray s 0 0 (fun q => G.2.2 ≤ q)) (F0 m 57 ls []) := by
                  intro n57
                  induction n57 with
                  | zero => intro locs ls j57_6 j57_7 hB hl hF g57_0 g57_1 g57_2 g57_3 g57_4 hm57; exact absurd hm57 (by have := ti_hi j57_7; omega)
                  | succ n57 ih57 =>
                    intro locs ls j57_6 j57_7 hB hl hF g57_0 g57_1 g57_2 g57_3 g57_4 hm57
                    have lj57_6 := ti_lo j57_6; have uj57_6 := ti_hi j57_6
                    have lj57_7 := ti_lo j57_7; have uj57_7 := ti_hi j57_7
                    have hm57 : (2147483648 : Int) - j57_7.toInt ≤ (n57 : Int) + 1 := by omega
                    replace hF := hF.trans (congrArg (dv_k f_X12_wordOf_5b) (congrArg (dv_k f_X12_wordOf_18b) (dv_lp_eq)))
                    replace hF := hF.trans (congrArg (dv_k f_X12_wordOf_5b) (congrArg (dv_k f_X12_wordOf_18b) (congrArg (dv_k f_X12_wordOf_57b) (f_X12_wordOf_57c.eq_1 (dv G Γ H0) ((a0 : Int)) (p1.toInt) (p2.toInt) (j5_3.toInt) (j5_4.toInt) (j18_5.toInt) (j57_6.toInt) (j57_7.toInt)))))
                    refine lv_iload hx hb dX12_wordOf_57 (lv_at hl 7 rfl) ?_
                    refine lv_iload hx hb dX12_wordOf_59 (lv_at hl 5 rfl) ?_
                    have jn104 : ∀ (locs : List Loc) (ls : Array Slot) , th_B G Γ Γ [] H0 H0 locs → lv_has ls 8 [(0, .ref a0), (1, .int p1), (2, .int p2), (3, .int j5_3), (4, .int j5_4), (5, .int j18_5), (6, .int j57_6)] → F = dv_k f_X12_wordOf_5b (dv_k f_X12_wordOf_18b (dv_k f_X12_wordOf_57b (f_X12_wordOf_104 (dv G Γ H0) ((a0 : Int)) (p1.toInt) (p2.toInt) (j5_3.toInt) (j5_4.toInt) (j18_5.toInt) (j57_6.toInt)))) → W p l e ({ frames := 0, cells := 0, slots := 0, locals := 0 } : Room) s m ([.ref a0, .int p1, .int p2] : List Value).toArray below meth c H0 locs 0 0 (MQ below (th_Q (fun (v : Option Value) (H1 : Heap) => ∃ r : Int32, v = some (.int r) ∧ (f_X12_wordOf (dv G Γ H0) (a0 : Int) p1.toInt p2.toInt = (r.toInt, ())) ∧ H0 = H1) G) ([.ref a0, .int p1, .int p2] : List Value).toArray s 0 0 (fun q => G.2.2 ≤ q)) (F0 m 104 ls []) := by
                      intro locs ls hB hl hF
                      replace hF := hF.trans (congrArg (dv_k f_X12_wordOf_5b) (congrArg (dv_k f_X12_wordOf_18b) (congrArg (dv_k f_X12_wordOf_57b) (f_X12_wordOf_104.eq_1 (dv G Γ H0) ((a0 : Int)) (p1.toInt) (p2.toInt) (j5_3.toInt) (j5_4.toInt) (j18_5.toInt) (j57_6.toInt)))))
                      refine lv_iload hx hb dX12_wordOf_104 (lv_at hl 6 rfl) ?_
                      refine tr_if_eq (tgt := 111) hx hb dX12_wordOf_106 (by decide) (Eq.refl _) (fun c106 => ?_) (fun c106 => ?_)
                      · replace hF := hF.trans (congrArg (dv_k f_X12_wordOf_5b) (congrArg (dv_k f_X12_wordOf_18b) (congrArg (dv_k f_X12_wordOf_57b) (if_pos c106))))
                        refine lv_iload hx hb dX12_wordOf_111 (lv_at hl 4 rfl) ?_
                        refine lv_iload hx hb dX12_wordOf_113 (lv_at hl 5 rfl) ?_
                        refine lv_iconst (v := 1) hx hb dX12_wordOf_115 (by decide) ?_
                        refine tr_iadd hx hb dX12_wordOf_116 (Eq.refl _) tk_1 (by omega) (by omega) (fun x6 ex6 => ?_)
                        replace hF := hF.trans (congrArg (dv_k f_X12_wordOf_5b) (congrArg (dv_k f_X12_wordOf_18b) (congrArg (dv_k f_X12_wordOf_57b) (dv_bn (ex6.symm)))))
                        refine tr_iadd hx hb dX12_wordOf_117 (Eq.refl _) (Eq.refl _) (by omega) (by omega) (fun x7 ex7 => ?_)
                        replace hF := hF.trans (congrArg (dv_k f_X12_wordOf_5b) (congrArg (dv_k f_X12_wordOf_18b) (congrArg (dv_k f_X12_wordOf_57b) (dv_bn (ex7.symm)))))
                        refine lv_istore (lv' := [(4, .int x7), (0, .ref a0), (1, .int p1), (2, .int p2), (3, .int j5_3), (5, .int j18_5), (6, .int j57_6)]) hx hb dX12_wordOf_118 hl (by decide) rfl (fun ls hl => ?_)
                        refine tr_iincE (fun x8 => [(3, .int x8), (4, .int x7), (0, .ref a0), (1, .int p1), (2, .int p2), (5, .int j18_5), (6, .int j57_6)]) hx hb dX12_wordOf_120 hl (k := 4) rfl (Eq.refl _) (by decide) (fun _ => rfl) (fun x8 ls ex8 hl => ?_)
                        have lx8 := ti_lo x8; have ux8 := ti_hi x8
                        replace hF := hF.trans (congrArg (dv_k f_X12_wordOf_5b) (congrArg (dv_k f_X12_wordOf_18b) (congrArg (dv_k f_X12_wordOf_57b) (dv_bn (ex8)))))
                        refine lv_goto (tgt := 5) hx hb dX12_wordOf_123 (by decide) ?_
                        replace hF := hF.trans (congrArg (dv_k f_X12_wordOf_5b) (congrArg (dv_k f_X12_wordOf_18b) (dv_kr)))
                        replace hF := hF.trans (congrArg (dv_k f_X12_wordOf_5b) (dv_kr))
                        replace hF := hF.trans (dv_kl)
                        exact ih5 locs ls x8 x7 hB (lv_sub hl [2, 3, 4, 0, 1] rfl) hF (by omega) (by omega) (by omega)
                      · replace hF := hF.trans (congrArg (dv_k f_X12_wordOf_5b) (congrArg (dv_k f_X12_wordOf_18b) (congrArg (dv_k f_X12_wordOf_57b) (if_neg c106))))
                        refine lv_iload_n hx hb dX12_wordOf_109 rfl (lv_at hl 3 rfl) ?_
                        replace hF := hF.trans (congrArg (dv_k f_X12_wordOf_5b) (congrArg (dv_k f_X12_wordOf_18b) (dv_kr)))
                        replace hF := hF.trans (congrArg (dv_k f_X12_wordOf_5b) (dv_kr))
                        replace hF := hF.trans (dv_kr)
                        exact th_iret hC hH hr hlocks rfl hB.2.1 ⟨_, rfl, (hF0.symm.trans hF), rfl⟩ dX12_wordOf_110
                    refine tr_icmp_ge (tgt := 104) hx hb dX12_wordOf_61 (by decide) (Eq.refl _) (Eq.refl _) (fun c61 => ?_) (fun c61 => ?_)
                    · replace hF := hF.trans (congrArg (dv_k f_X12_wordOf_5b) (congrArg (dv_k f_X12_wordOf_18b) (congrArg (dv_k f_X12_wordOf_57b) (if_pos c61))))
                      exact jn104 locs ls hB (lv_sub hl [0, 1, 2, 3, 4, 5, 6] rfl) hF
                    · replace hF := hF.trans (congrArg (dv_k f_X12_wordOf_5b) (congrArg (dv_k f_X12_wordOf_18b) (congrArg (dv_k f_X12_wordOf_57b) (if_neg (Int.not_le.mpr c61)))))
                      refine lv_iload hx hb dX12_wordOf_64 (lv_at hl 6 rfl) ?_
                      refine tr_if_eq (tgt := 104) hx hb dX12_wordOf_66 (by decide) (Eq.refl _) (fun c66 => ?_) (fun c66 => ?_)
                      · replace hF := hF.trans (congrArg (dv_k f_X12_wordOf_5b) (congrArg (dv_k f_X12_wordOf_18b) (congrArg (dv_k f_X12_wordOf_57b) (if_pos c66))))
                        exact jn104 locs ls hB (lv_sub hl [0, 1, 2, 3, 4, 5, 6] rfl) hF
                      · replace hF := hF.trans (congrArg (dv_k f_X12_wordOf_5b) (congrArg (dv_k f_X12_wordOf_18b) (congrArg (dv_k f_X12_wordOf_57b) (if_neg c66))))
                        refine lv_aload_n hx hb dX12_wordOf_69 rfl (lv_at hl 0 rfl) ?_
                        refine th_getK hC cf_X12 hB.1 h0 ro_46 rfl (j := 7) (by decide) mb1 kf_X12_41 dX12_wordOf_70 ?_
                        refine lv_iload hx hb dX12_wordOf_73 (lv_at hl 4 rfl) ?_
                        refine lv_iload hx hb dX12_wordOf_75 (lv_at hl 7 rfl) ?_
                        refine tr_iadd hx hb dX12_wordOf_77 (Eq.refl _) (Eq.refl _) (by omega) (by omega) (fun x9 ex9 => ?_)
                        replace hF := hF.trans (congrArg (dv_k f_X12_wordOf_5b) (congrArg (dv_k f_X12_wordOf_18b) (congrArg (dv_k f_X12_wordOf_57b) (dv_bn (ex9.symm)))))
                        refine th_baldF (lo := th_wl.getD (x9.toInt).toNat 0) (hi := th_wl.getD (x9.toInt).toNat 0) hC hB.1 hb1 ro_52 rfl (Eq.refl _) (by omega) (by omega) rfl dX12_wordOf_78 (fun x10 mx10 lwx10 uwx10 => ?_)
                        have lx10 := ti_lo x10; have ux10 := ti_hi x10
                        replace hF := hF.trans (congrArg (dv_k f_X12_wordOf_5b) (congrArg (dv_k f_X12_wordOf_18b) (congrArg (dv_k f_X12_wordOf_57b) (dv_bn (dv_aldI hB.1 hU hb1 ow_52 (z := x9.toInt) mx10 (by omega))))))
                        refine lv_aload_n hx hb dX12_wordOf_79 rfl (lv_at hl 0 rfl) ?_
                        refine th_getO (j := 11) (r2 := 53) hC cf_X12 hB.1 h0 ro_46 rfl rfl kf_X12_45 dX12_wordOf_80 (fun b11 mb11 hb11 => ?_)
                        refine lv_iload_n hx hb dX12_wordOf_83 rfl (lv_at hl 1 rfl) ?_
                        refine lv_iload hx hb dX12_wordOf_84 (lv_at hl 7 rfl) ?_
                        refine tr_iadd hx hb dX12_wordOf_86 (Eq.refl _) (Eq.refl _) (by omega) (by omega) (fun x12 ex12 => ?_)
                        replace hF := hF.trans (congrArg (dv_k f_X12_wordOf_5b) (congrArg (dv_k f_X12_wordOf_18b) (congrArg (dv_k f_X12_wordOf_57b) (dv_bn (ex12.symm)))))
                        refine th_baldF hC hB.1 hb11 ro_53 rfl (Eq.refl _) (by omega) (by omega) rfl dX12_wordOf_87 (fun x13 mx13 lx13 ux13 => ?_)
                        replace hF := hF.trans (congrArg (dv_k f_X12_wordOf_5b) (congrArg (dv_k f_X12_wordOf_18b) (congrArg (dv_k f_X12_wordOf_57b) (dv_bn (dv_aldI hB.1 hU hb11 ow_53 (z := x12.toInt) mx13 (by omega))))))
                        refine tr_icmp_ne (tgt := 95) hx hb dX12_wordOf_88 (by decide) (Eq.refl _) (Eq.refl _) (fun c88 => ?_) (fun c88 => ?_)
                        · replace hF := hF.trans (congrArg (dv_k f_X12_wordOf_5b) (congrArg (dv_k f_X12_wordOf_18b) (congrArg (dv_k f_X12_wordOf_57b) (if_pos c88))))
                          refine lv_iconst (v := 0) hx hb dX12_wordOf_95 (by decide) ?_
                          refine lv_istore (lv' := [(6, .int 0), (0, .ref a0), (1, .int p1), (2, .int p2), (3, .int j5_3), (4, .int j5_4), (5, .int j18_5), (7, .int j57_7)]) hx hb dX12_wordOf_96 hl (by decide) rfl (fun ls hl => ?_)
                          refine tr_iinc (fun x14 => [(7, .int x14), (6, .int 0), (0, .ref a0), (1, .int p1), (2, .int p2), (3, .int j5_3), (4, .int j5_4), (5, .int j18_5)]) hx hb dX12_wordOf_98 hl (k := 7) rfl (Eq.refl _) tk_1 (by omega) (by omega) (by decide) (fun _ => rfl) (fun x14 ls ex14 hl => ?_)
                          replace hF := hF.trans (congrArg (dv_k f_X12_wordOf_5b) (congrArg (dv_k f_X12_wordOf_18b) (congrArg (dv_k f_X12_wordOf_57b) (dv_bn (ex14.symm)))))
                          refine lv_goto (tgt := 57) hx hb dX12_wordOf_101 (by decide) ?_
                          replace hF := hF.trans (congrArg (dv_k f_X12_wordOf_5b) (congrArg (dv_k f_X12_wordOf_18b) (dv_kl)))
                          exact ih57 locs ls 0 x14 hB (lv_sub hl [2, 3, 4, 5, 6, 7, 1, 0] rfl) (by rw [tk_0]; exact hF) (by decide) (by decide) (by omega) (by omega) (by have w0 := tk_0; omega) (by have w0 := tk_0; omega)
                        · replace hF := hF.trans (congrArg (dv_k f_X12_wordOf_5b) (congrArg (dv_k f_X12_wordOf_18b) (congrArg (dv_k f_X12_wordOf_57b) (if_neg (not_not_intro c88)))))
                          refine lv_iconst (v := 1) hx hb dX12_wordOf_91 (by decide) ?_
                          refine lv_goto (tgt := 96) hx hb dX12_wordOf_92 (by decide) ?_
                          refine lv_istore (lv' := [(6, .int 1), (0, .ref a0), (1, .int p1), (2, .int p2), (3, .int j5_3), (4, .int j5_4), (5, .int j18_5), (7, .int j57_7)]) hx hb dX12_wordOf_96 hl (by decide) rfl (fun ls hl => ?_)
                          refine tr_iinc (fun x15 => [(7, .int x15), (6, .int 1), (0, .ref a0), (1, .int p1), (2, .int p2), (3, .int j5_3), (4, .int j5_4), (5, .int j18_5)]) hx hb dX12_wordOf_98 hl (k := 7) rfl (Eq.refl _) tk_1 (by omega) (by omega) (by decide) (fun _ => rfl) (fun x15 ls ex15 hl => ?_)
                          replace hF := hF.trans (congrArg (dv_k f_X12_wordOf_5b) (congrArg (dv_k f_X12_wordOf_18b) (congrArg (dv_k f_X12_wordOf_57b) (dv_bn (ex15.symm)))))
                          refine lv_goto (tgt := 57) hx hb dX12_wordOf_101 (by decide) ?_
                          replace hF := hF.trans (congrArg (dv_k f_X12_wordOf_5b) (congrArg (dv_k f_X12_wordOf_18b) (dv_kl)))
                          exact ih57 locs ls 1 x15 hB (lv_sub hl [2, 3, 4, 5, 6, 7, 1, 0] rfl) (by rw [tk_1]; exact hF) (by decide) (by decide) (by omega) (by omega) (by have w0 := tk_1; omega) (by have w0 := tk_1; omega)
                exact lp57 ((2147483648 : Int) - (0)).toNat locs ls 0 0 hB (lv_sub hl [2, 3, 4, 5, 6, 7, 1, 0] rfl) (by rw [tk_0]; exact hF) (by decide) (by decide) (by decide) (by decide) (by have w0 := tk_0; omega) (by have w0 := tk_0; omega)
              · replace hF := hF.trans (congrArg (dv_k f_X12_wordOf_5b) (congrArg (dv_k f_X12_wordOf_18b) (if_neg (not_not_intro c44))))
                refine lv_iconst (v := 1) hx hb dX12_wordOf_47 (by decide) ?_
                refine lv_goto (tgt := 52) hx hb dX12_wordOf_48 (by decide) ?_
                refine lv_istore (lv' := [(6, .int 1), (0, .ref a0), (1, .int p1), (2, .int p2), (3, .int j5_3), (4, .int j5_4), (5, .int j18_5)]) hx hb dX12_wordOf_52 hl (by decide) rfl (fun ls hl => ?_)
                refine lv_iconst (v := 0) hx hb dX12_wordOf_54 (by decide) ?_
                refine lv_istore (lv' := [(7, .int 0), (6, .int 1), (0, .ref a0), (1, .int p1), (2, .int p2), (3, .int j5_3), (4, .int j5_4), (5, .int j18_5)]) hx hb dX12_wordOf_55 hl (by decide) rfl (fun ls hl => ?_)
                have lp57 : ∀ (n57 : Nat) (locs : List Loc) (ls : Array Slot) (j57_6 : Int32) (j57_7 : Int32), th_B G Γ Γ [] H0 H0 locs → lv_has ls 8 [(0, .ref a0), (1, .int p1), (2, .int p2), (3, .int j5_3), (4, .int j5_4), (5, .int j18_5), (6, .int j57_6), (7, .int j57_7)] → F = dv_k f_X12_wordOf_5b (dv_k f_X12_wordOf_18b (dv_lp f_X12_wordOf_57x2b (dv G Γ H0, (a0 : Int), p1.toInt, p2.toInt, j5_3.toInt, j5_4.toInt, j18_5.toInt, j57_6.toInt, j57_7.toInt))) → 0 ≤ j57_6.toInt → j57_6.toInt ≤ 1 → 0 ≤ j57_7.toInt → j57_7.toInt ≤ 143 → (j57_6.toInt = 1 → j18_5.toInt = p2.toInt - p1.toInt) → (2147483648 : Int) - j57_7.toInt ≤ (n57 : Int) → W p l e ({ frames := 0, cells := 0, slots := 0, locals := 0 } : Room) s m ([.ref a0, .int p1, .int p2] : List Value).toArray below meth c H0 locs 0 0 (MQ below (th_Q (fun (v : Option Value) (H1 : Heap) => ∃ r : Int32, v = some (.int r) ∧ (f_X12_wordOf (dv G Γ H0) (a0 : Int) p1.toInt p2.toInt = (r.toInt, ())) ∧ H0 = H1) G) ([.ref a0, .int p1, .int p2] : List Value).toArray s 0 0 (fun q => G.2.2 ≤ q)) (F0 m 57 ls []) := by
                  intro n57
                  induction n57 with
                  | zero => intro locs ls j57_6 j57_7 hB hl hF g57_0 g57_1 g57_2 g57_3 g57_4 hm57; exact absurd hm57 (by have := ti_hi j57_7; omega)
                  | succ n57 ih57 =>
                    intro locs ls j57_6 j57_7 hB hl hF g57_0 g57_1 g57_2 g57_3 g57_4 hm57
                    have lj57_6 := ti_lo j57_6; have uj57_6 := ti_hi j57_6
                    have lj57_7 := ti_lo j57_7; have uj57_7 := ti_hi j57_7
                    have hm57 : (2147483648 : Int) - j57_7.toInt ≤ (n57 : Int) + 1 := by omega
                    replace hF := hF.trans (congrArg (dv_k f_X12_wordOf_5b) (congrArg (dv_k f_X12_wordOf_18b) (dv_lp_eq)))
                    replace hF := hF.trans (congrArg (dv_k f_X12_wordOf_5b) (congrArg (dv_k f_X12_wordOf_18b) (congrArg (dv_k f_X12_wordOf_57x2b) (f_X12_wordOf_57x2c.eq_1 (dv G Γ H0) ((a0 : Int)) (p1.toInt) (p2.toInt) (j5_3.toInt) (j5_4.toInt) (j18_5.toInt) (j57_6.toInt) (j57_7.toInt)))))
                    refine lv_iload hx hb dX12_wordOf_57 (lv_at hl 7 rfl) ?_
                    refine lv_iload hx hb dX12_wordOf_59 (lv_at hl 5 rfl) ?_
                    have jn104 : ∀ (locs : List Loc) (ls : Array Slot) , th_B G Γ Γ [] H0 H0 locs → lv_has ls 8 [(0, .ref a0), (1, .int p1), (2, .int p2), (3, .int j5_3), (4, .int j5_4), (5, .int j18_5), (6, .int j57_6)] → F = dv_k f_X12_wordOf_5b (dv_k f_X12_wordOf_18b (dv_k f_X12_wordOf_57x2b (f_X12_wordOf_104x2 (dv G Γ H0) ((a0 : Int)) (p1.toInt) (p2.toInt) (j5_3.toInt) (j5_4.toInt) (j18_5.toInt) (j57_6.toInt)))) → W p l e ({ frames := 0, cells := 0, slots := 0, locals := 0 } : Room) s m ([.ref a0, .int p1, .int p2] : List Value).toArray below meth c H0 locs 0 0 (MQ below (th_Q (fun (v : Option Value) (H1 : Heap) => ∃ r : Int32, v = some (.int r) ∧ (f_X12_wordOf (dv G Γ H0) (a0 : Int) p1.toInt p2.toInt = (r.toInt, ())) ∧ H0 = H1) G) ([.ref a0, .int p1, .int p2] : List Value).toArray s 0 0 (fun q => G.2.2 ≤ q)) (F0 m 104 ls []) := by
                      intro locs ls hB hl hF
                      replace hF := hF.trans (congrArg (dv_k f_X12_wordOf_5b) (congrArg (dv_k f_X12_wordOf_18b) (congrArg (dv_k f_X12_wordOf_57x2b) (f_X12_wordOf_104x2.eq_1 (dv G Γ H0) ((a0 : Int)) (p1.toInt) (p2.toInt) (j5_3.toInt) (j5_4.toInt) (j18_5.toInt) (j57_6.toInt)))))
                      refine lv_iload hx hb dX12_wordOf_104 (lv_at hl 6 rfl) ?_
                      refine tr_if_eq (tgt := 111) hx hb dX12_wordOf_106 (by decide) (Eq.refl _) (fun c106 => ?_) (fun c106 => ?_)
                      · replace hF := hF.trans (congrArg (dv_k f_X12_wordOf_5b) (congrArg (dv_k f_X12_wordOf_18b) (congrArg (dv_k f_X12_wordOf_57x2b) (if_pos c106))))
                        refine lv_iload hx hb dX12_wordOf_111 (lv_at hl 4 rfl) ?_
                        refine lv_iload hx hb dX12_wordOf_113 (lv_at hl 5 rfl) ?_
                        refine lv_iconst (v := 1) hx hb dX12_wordOf_115 (by decide) ?_
                        refine tr_iadd hx hb dX12_wordOf_116 (Eq.refl _) tk_1 (by omega) (by omega) (fun x16 ex16 => ?_)
                        replace hF := hF.trans (congrArg (dv_k f_X12_wordOf_5b) (congrArg (dv_k f_X12_wordOf_18b) (congrArg (dv_k f_X12_wordOf_57x2b) (dv_bn (ex16.symm)))))
                        refine tr_iadd hx hb dX12_wordOf_117 (Eq.refl _) (Eq.refl _) (by omega) (by omega) (fun x17 ex17 => ?_)
                        replace hF := hF.trans (congrArg (dv_k f_X12_wordOf_5b) (congrArg (dv_k f_X12_wordOf_18b) (congrArg (dv_k f_X12_wordOf_57x2b) (dv_bn (ex17.symm)))))
                        refine lv_istore (lv' := [(4, .int x17), (0, .ref a0), (1, .int p1), (2, .int p2), (3, .int j5_3), (5, .int j18_5), (6, .int j57_6)]) hx hb dX12_wordOf_118 hl (by decide) rfl (fun ls hl => ?_)
                        refine tr_iincE (fun x18 => [(3, .int x18), (4, .int x17), (0, .ref a0), (1, .int p1), (2, .int p2), (5, .int j18_5), (6, .int j57_6)]) hx hb dX12_wordOf_120 hl (k := 4) rfl (Eq.refl _) (by decide) (fun _ => rfl) (fun x18 ls ex18 hl => ?_)
                        have lx18 := ti_lo x18; have ux18 := ti_hi x18
                        replace hF := hF.trans (congrArg (dv_k f_X12_wordOf_5b) (congrArg (dv_k f_X12_wordOf_18b) (congrArg (dv_k f_X12_wordOf_57x2b) (dv_bn (ex18)))))
                        refine lv_goto (tgt := 5) hx hb dX12_wordOf_123 (by decide) ?_
                        replace hF := hF.trans (congrArg (dv_k f_X12_wordOf_5b) (congrArg (dv_k f_X12_wordOf_18b) (dv_kr)))
                        replace hF := hF.trans (congrArg (dv_k f_X12_wordOf_5b) (dv_kr))
                        replace hF := hF.trans (dv_kl)
                        exact ih5 locs ls x18 x17 hB (lv_sub hl [2, 3, 4, 0, 1] rfl) hF (by omega) (by omega) (by omega)
                      · replace hF := hF.trans (congrArg (dv_k f_X12_wordOf_5b) (congrArg (dv_k f_X12_wordOf_18b) (congrArg (dv_k f_X12_wordOf_57x2b) (if_neg c106))))
                        refine lv_iload_n hx hb dX12_wordOf_109 rfl (lv_at hl 3 rfl) ?_
                        replace hF := hF.trans (congrArg (dv_k f_X12_wordOf_5b) (congrArg (dv_k f_X12_wordOf_18b) (dv_kr)))
                        replace hF := hF.trans (congrArg (dv_k f_X12_wordOf_5b) (dv_kr))
                        replace hF := hF.trans (dv_kr)
                        exact th_iret hC hH hr hlocks rfl hB.2.1 ⟨_, rfl, (hF0.symm.trans hF), rfl⟩ dX12_wordOf_110
                    refine tr_icmp_ge (tgt := 104) hx hb dX12_wordOf_61 (by decide) (Eq.refl _) (Eq.refl _) (fun c61 => ?_) (fun c61 => ?_)
                    · replace hF := hF.trans (congrArg (dv_k f_X12_wordOf_5b) (congrArg (dv_k f_X12_wordOf_18b) (congrArg (dv_k f_X12_wordOf_57x2b) (if_pos c61))))
                      exact jn104 locs ls hB (lv_sub hl [0, 1, 2, 3, 4, 5, 6] rfl) hF
                    · replace hF := hF.trans (congrArg (dv_k f_X12_wordOf_5b) (congrArg (dv_k f_X12_wordOf_18b) (congrArg (dv_k f_X12_wordOf_57x2b) (if_neg (Int.not_le.mpr c61)))))
                      refine lv_iload hx hb dX12_wordOf_64 (lv_at hl 6 rfl) ?_
                      refine tr_if_eq (tgt := 104) hx hb dX12_wordOf_66 (by decide) (Eq.refl _) (fun c66 => ?_) (fun c66 => ?_)
                      · replace hF := hF.trans (congrArg (dv_k f_X12_wordOf_5b) (congrArg (dv_k f_X12_wordOf_18b) (congrArg (dv_k f_X12_wordOf_57x2b) (if_pos c66))))
                        exact jn104 locs ls hB (lv_sub hl [0, 1, 2, 3, 4, 5, 6] rfl) hF
                      · replace hF := hF.trans (congrArg (dv_k f_X12_wordOf_5b) (congrArg (dv_k f_X12_wordOf_18b) (congrArg (dv_k f_X12_wordOf_57x2b) (if_neg c66))))
                        refine lv_aload_n hx hb dX12_wordOf_69 rfl (lv_at hl 0 rfl) ?_
                        refine th_getK hC cf_X12 hB.1 h0 ro_46 rfl (j := 7) (by decide) mb1 kf_X12_41 dX12_wordOf_70 ?_
                        refine lv_iload hx hb dX12_wordOf_73 (lv_at hl 4 rfl) ?_
                        refine lv_iload hx hb dX12_wordOf_75 (lv_at hl 7 rfl) ?_
                        refine tr_iadd hx hb dX12_wordOf_77 (Eq.refl _) (Eq.refl _) (by omega) (by omega) (fun x19 ex19 => ?_)
                        replace hF := hF.trans (congrArg (dv_k f_X12_wordOf_5b) (congrArg (dv_k f_X12_wordOf_18b) (congrArg (dv_k f_X12_wordOf_57x2b) (dv_bn (ex19.symm)))))
                        refine th_baldF (lo := th_wl.getD (x19.toInt).toNat 0) (hi := th_wl.getD (x19.toInt).toNat 0) hC hB.1 hb1 ro_52 rfl (Eq.refl _) (by omega) (by omega) rfl dX12_wordOf_78 (fun x20 mx20 lwx20 uwx20 => ?_)
                        have lx20 := ti_lo x20; have ux20 := ti_hi x20
                        replace hF := hF.trans (congrArg (dv_k f_X12_wordOf_5b) (congrArg (dv_k f_X12_wordOf_18b) (congrArg (dv_k f_X12_wordOf_57x2b) (dv_bn (dv_aldI hB.1 hU hb1 ow_52 (z := x19.toInt) mx20 (by omega))))))
                        refine lv_aload_n hx hb dX12_wordOf_79 rfl (lv_at hl 0 rfl) ?_
                        refine th_getO (j := 11) (r2 := 53) hC cf_X12 hB.1 h0 ro_46 rfl rfl kf_X12_45 dX12_wordOf_80 (fun b21 mb21 hb21 => ?_)
                        refine lv_iload_n hx hb dX12_wordOf_83 rfl (lv_at hl 1 rfl) ?_
                        refine lv_iload hx hb dX12_wordOf_84 (lv_at hl 7 rfl) ?_
                        refine tr_iadd hx hb dX12_wordOf_86 (Eq.refl _) (Eq.refl _) (by omega) (by omega) (fun x22 ex22 => ?_)
                        replace hF := hF.trans (congrArg (dv_k f_X12_wordOf_5b) (congrArg (dv_k f_X12_wordOf_18b) (congrArg (dv_k f_X12_wordOf_57x2b) (dv_bn (ex22.symm)))))
                        refine th_baldF hC hB.1 hb21 ro_53 rfl (Eq.refl _) (by omega) (by omega) rfl dX12_wordOf_87 (fun x23 mx23 lx23 ux23 => ?_)
                        replace hF := hF.trans (congrArg (dv_k f_X12_wordOf_5b) (congrArg (dv_k f_X12_wordOf_18b) (congrArg (dv_k f_X12_wordOf_57x2b) (dv_bn (dv_aldI hB.1 hU hb21 ow_53 (z := x22.toInt) mx23 (by omega))))))
                        refine tr_icmp_ne (tgt := 95) hx hb dX12_wordOf_88 (by decide) (Eq.refl _) (Eq.refl _) (fun c88 => ?_) (fun c88 => ?_)
                        · replace hF := hF.trans (congrArg (dv_k f_X12_wordOf_5b) (congrArg (dv_k f_X12_wordOf_18b) (congrArg (dv_k f_X12_wordOf_57x2b) (if_pos c88))))
                          refine lv_iconst (v := 0) hx hb dX12_wordOf_95 (by decide) ?_
                          refine lv_istore (lv' := [(6, .int 0), (0, .ref a0), (1, .int p1), (2, .int p2), (3, .int j5_3), (4, .int j5_4), (5, .int j18_5), (7, .int j57_7)]) hx hb dX12_wordOf_96 hl (by decide) rfl (fun ls hl => ?_)
                          refine tr_iinc (fun x24 => [(7, .int x24), (6, .int 0), (0, .ref a0), (1, .int p1), (2, .int p2), (3, .int j5_3), (4, .int j5_4), (5, .int j18_5)]) hx hb dX12_wordOf_98 hl (k := 7) rfl (Eq.refl _) tk_1 (by omega) (by omega) (by decide) (fun _ => rfl) (fun x24 ls ex24 hl => ?_)
                          replace hF := hF.trans (congrArg (dv_k f_X12_wordOf_5b) (congrArg (dv_k f_X12_wordOf_18b) (congrArg (dv_k f_X12_wordOf_57x2b) (dv_bn (ex24.symm)))))
                          refine lv_goto (tgt := 57) hx hb dX12_wordOf_101 (by decide) ?_
                          replace hF := hF.trans (congrArg (dv_k f_X12_wordOf_5b) (congrArg (dv_k f_X12_wordOf_18b) (dv_kl)))
                          exact ih57 locs ls 0 x24 hB (lv_sub hl [2, 3, 4, 5, 6, 7, 1, 0] rfl) (by rw [tk_0]; exact hF) (by decide) (by decide) (by omega) (by omega) (by have w0 := tk_0; omega) (by have w0 := tk_0; omega)
                        · replace hF := hF.trans (congrArg (dv_k f_X12_wordOf_5b) (congrArg (dv_k f_X12_wordOf_18b) (congrArg (dv_k f_X12_wordOf_57x2b) (if_neg (not_not_intro c88)))))
                          refine lv_iconst (v := 1) hx hb dX12_wordOf_91 (by decide) ?_
                          refine lv_goto (tgt := 96) hx hb dX12_wordOf_92 (by decide) ?_
                          refine lv_istore (lv' := [(6, .int 1), (0, .ref a0), (1, .int p1), (2, .int p2), (3, .int j5_3), (4, .int j5_4), (5, .int j18_5), (7, .int j57_7)]) hx hb dX12_wordOf_96 hl (by decide) rfl (fun ls hl => ?_)
                          refine tr_iinc (fun x25 => [(7, .int x25), (6, .int 1), (0, .ref a0), (1, .int p1), (2, .int p2), (3, .int j5_3), (4, .int j5_4), (5, .int j18_5)]) hx hb dX12_wordOf_98 hl (k := 7) rfl (Eq.refl _) tk_1 (by omega) (by omega) (by decide) (fun _ => rfl) (fun x25 ls ex25 hl => ?_)
                          replace hF := hF.trans (congrArg (dv_k f_X12_wordOf_5b) (congrArg (dv_k f_X12_wordOf_18b) (congrArg (dv_k f_X12_wordOf_57x2b) (dv_bn (ex25.symm)))))
                          refine lv_goto (tgt := 57) hx hb dX12_wordOf_101 (by decide) ?_
                          replace hF := hF.trans (congrArg (dv_k f_X12_wordOf_5b) (congrArg (dv_k f_X12_wordOf_18b) (dv_kl)))
                          exact ih57 locs ls 1 x25 hB (lv_sub hl [2, 3, 4, 5, 6, 7, 1, 0] rfl) (by rw [tk_1]; exact hF) (by decide) (by decide) (by omega) (by omega) (by have w0 := tk_1; omega) (by have w0 := tk_1; omega)
                exact lp57 ((2147483648 : Int) - (0)).toNat locs ls 1 0 hB (lv_sub hl [2, 3, 4, 5, 6, 7, 1, 0] rfl) (by rw [tk_1, tk_0]; exact hF) (by decide) (by decide) (by decide) (by decide) (by have w0 := tk_0; have w1 := tk_1; omega) (by have w0 := tk_0; have w1 := tk_1; omega)
            · replace hF := hF.trans (congrArg (dv_k f_X12_wordOf_5b) (congrArg (dv_k f_X12_wordOf_18b) (if_neg c30)))
              refine tr_iinc (fun x26 => [(5, .int x26), (0, .ref a0), (1, .int p1), (2, .int p2), (3, .int j5_3), (4, .int j5_4)]) hx hb dX12_wordOf_33 hl (k := 5) rfl (Eq.refl _) tk_1 (by omega) (by omega) (by decide) (fun _ => rfl) (fun x26 ls ex26 hl => ?_)
              replace hF := hF.trans (congrArg (dv_k f_X12_wordOf_5b) (congrArg (dv_k f_X12_wordOf_18b) (dv_bn (ex26.symm))))
              have w33 : x3.toInt ≠ 126 := fun q9 => by have e9 : th_wl.getD (x3.toInt).toNat 0 = 32 := (by rw [q9]; decide); omega
              refine lv_goto (tgt := 18) hx hb dX12_wordOf_36 (by decide) ?_
              replace hF := hF.trans (congrArg (dv_k f_X12_wordOf_5b) (dv_kl))
              exact ih18 locs ls x26 hB (lv_sub hl [1, 2, 3, 4, 5, 0] rfl) hF (by omega) (by omega) (by omega) (by omega)
        exact lp18 ((2147483648 : Int) - (0)).toNat locs ls 0 hB (lv_sub hl [1, 2, 3, 4, 5, 0] rfl) (by rw [tk_0]; exact hF) (by decide) (by decide) (by have w0 := tk_0; omega) (by have w0 := tk_0; omega)
  exact lp5 ((128 : Int) - (0)).toNat [] ls 1 0 hB (lv_sub hl [2, 3, 4, 1, 0] rfl) (by rw [tk_1, tk_0]; exact hF) (by decide) (by decide) (by have w0 := tk_0; have w1 := tk_1; omega)

set_option maxHeartbeats 4000000 in
set_option maxRecDepth 100000 in
theorem c_X12_splits (l : Launch) (G : th_G) (Γ : th_Ga) (H0 : Heap) (hI : th_I G Γ H0) (hR : th_RC G Γ H0) (hU : dv_U Γ) (a0 : Nat) (h0 : Γ a0 = (46, 0)) (p1 : Int32) (f1 : 0 ≤ p1.toInt) (g1 : p1.toInt ≤ 400) : Met l yX12_splits (.code yX12_splits cX12_splits 6 (none) :: th_tb) ({ frames := 1, cells := 0, slots := 0, locals := 27 } : Room) (th_P [.ref a0, .int p1] G H0) (th_Q (fun (v : Option Value) (H1 : Heap) => v = none ∧ th_I G Γ H1 ∧ th_F G Γ [(46, 18), (57, 0), (56, 0), (55, 0)] H0 H1 ∧ th_RC G Γ H1 ∧ (mo_v G H1 a0 15 (mo_f G H1 a0 18) = 0) ∧ (f_X12_splits (dv G Γ H0) (a0 : Int) p1.toInt = (dv G Γ H1, 0))) G) 0 0 (fun q => G.2.2 ≤ q) := by
  refine th_met RX12 (by decide) rfl (Nat.le_of_ble_eq_true rfl) ?_
  intro p e s m below meth c hC hH hr hlocks hnm ls hl
  have hx := hC.1
  have hb := hC.2.1
  have hB : th_B G Γ Γ [(46, 18), (57, 0), (56, 0), (55, 0)] H0 H0 [] := ⟨hI, va_S.rf, th_F_rf⟩
  have hl : lv_has ls 6 [(0, .ref a0), (1, .int p1)] := hl
  have lp1 := ti_lo p1; have up1 := ti_hi p1
  obtain ⟨F, hF0⟩ : ∃ F, F = f_X12_splits (dv G Γ H0) ((a0 : Int)) (p1.toInt) := ⟨_, rfl⟩
  have hF := hF0.trans (f_X12_splits.eq_1 (dv G Γ H0) ((a0 : Int)) (p1.toInt))
  refine lv_aload_n hx hb dX12_splits_0 rfl (lv_at hl 0 rfl) ?_
  refine lv_iconst (v := 0) hx hb dX12_splits_1 (by decide) ?_
  refine th_put hC cf_X12 hB h0 (Or.inl h0) ro_46 rfl (j := 18) rfl (th_sI (by decide) (by decide)) (by decide) rfl rfl rfl kf_X12_175 dX12_splits_2 (fun H2 locs hB hf hst2 => ?_)
  have hR := th_RC_F hB.1 hR hf (th_T_s h0 ro_46 hst2) (by decide)
  have vv_H2_15 : mo_v G H2 a0 15 = mo_v G H0 a0 15 := mo_v_F (r := 55) hB.1 hf h0 rfl ro_55 (by decide) (by decide)
  replace hF := hF.trans (dv_bn (dv_putI hB.1 h0 ro_46 (j := 18) rfl (th_apart hC cf_X12) hst2 tk_0 (by decide)))
  have fp2 : mo_f G H2 a0 18 = 0 := (mo_f_St hst2).trans tk_0
  have mm1 := hst2.2.1
  refine lv_iconst (v := 0) hx hb dX12_splits_5 (by decide) ?_
  refine lv_istore_n (lv' := [(2, .int 0), (0, .ref a0), (1, .int p1)]) hx hb dX12_splits_6 rfl hl (by decide) rfl (fun ls hl => ?_)
  have lp7 : ∀ (n7 : Nat) (H7 : Heap) (locs : List Loc) (ls : Array Slot) (j7_2 : Int32), th_B G Γ Γ [(46, 18), (57, 0), (56, 0), (55, 0)] H0 H7 locs → th_RC G Γ H7 → lv_has ls 6 [(0, .ref a0), (1, .int p1), (2, .int j7_2)] → F = dv_lp f_X12_splits_7b (dv G Γ H7, (a0 : Int), p1.toInt, j7_2.toInt) → 0 ≤ j7_2.toInt → j7_2.toInt ≤ 400 → (mo_f G H7 a0 18 ≤ j7_2.toInt) → j7_2.toInt ≤ p1.toInt → (401 : Int) - j7_2.toInt ≤ (n7 : Int) → W p l e ({ frames := 1, cells := 0, slots := 0, locals := 27 } : Room) s m ([.ref a0, .int p1] : List Value).toArray below meth c H7 locs 0 0 (MQ below (th_Q (fun (v : Option Value) (H1 : Heap) => v = none ∧ th_I G Γ H1 ∧ th_F G Γ [(46, 18), (57, 0), (56, 0), (55, 0)] H0 H1 ∧ th_RC G Γ H1 ∧ (mo_v G H1 a0 15 (mo_f G H1 a0 18) = 0) ∧ (f_X12_splits (dv G Γ H0) (a0 : Int) p1.toInt = (dv G Γ H1, 0))) G) ([.ref a0, .int p1] : List Value).toArray s 0 0 (fun q => G.2.2 ≤ q)) (F0 m 7 ls []) := by
    intro n7
    induction n7 with
    | zero => intro H7 locs ls j7_2 hB hR hl hF g7_0 g7_1 g7_2 g7_3 hm7; exact absurd hm7 (by have := True.intro; omega)
    | succ n7 ih7 =>
      intro H7 locs ls j7_2 hB hR hl hF g7_0 g7_1 g7_2 g7_3 hm7
      have lj7_2 := ti_lo j7_2; have uj7_2 := ti_hi j7_2
      have hm7 : (401 : Int) - j7_2.toInt ≤ (n7 : Int) + 1 := by omega
      replace hF := hF.trans (dv_lp_eq)
      replace hF := hF.trans (congrArg (dv_k f_X12_splits_7b) (f_X12_splits_7c.eq_1 (dv G Γ H7) ((a0 : Int)) (p1.toInt) (j7_2.toInt)))
      refine lv_iload_n hx hb dX12_splits_7 rfl (lv_at hl 2 rfl) ?_
      refine lv_iload_n hx hb dX12_splits_8 rfl (lv_at hl 1 rfl) ?_
      refine tr_icmp_ge (tgt := 263) hx hb dX12_splits_9 (by decide) (Eq.refl _) (Eq.refl _) (fun c9 => ?_) (fun c9 => ?_)
      · replace hF := hF.trans (congrArg (dv_k f_X12_splits_7b) (if_pos c9))
        refine lv_aload_n hx hb dX12_splits_263 rfl (lv_at hl 0 rfl) ?_
        refine th_getO (j := 17) (r2 := 57) hC cf_X12 hB.1 h0 ro_46 rfl rfl kf_X12_60 dX12_splits_264 (fun b2 mb2 hb2 => ?_)
        refine lv_aload_n hx hb dX12_splits_267 rfl (lv_at hl 0 rfl) ?_
        refine th_getI (j := 18) hC cf_X12 hB.1 h0 ro_46 rfl rfl kf_X12_175 dX12_splits_268 (fun x3 mx3 lx3 ux3 => ?_)
        replace hF := hF.trans (congrArg (dv_k f_X12_splits_7b) (dv_bn (dv_getI h0 ro_46 (j := 18) rfl mx3 (by decide))))
        have fg4 : mo_f G H7 a0 18 = x3.toInt := mo_fat mx3
        refine lv_iload_n hx hb dX12_splits_271 rfl (lv_at hl 1 rfl) ?_
        have hIo := hB.1
        refine th_iastF hC hB hb2 (Or.inl hb2) ro_57 rfl (by decide) (Eq.refl _) (by omega) (by omega) (th_sI (by omega) (by omega)) dX12_splits_272 (fun H272 locs hB hf272 hst272 => ?_)
        have hf := hf272
        have mm5 := (th_F_o hf h0 ro_46 (j := 18) (by decide) (by decide)).trans mx3
        have hR := th_RC_F hB.1 hR hf (th_T_s hb2 ro_57 hst272) (by decide)
        have fv_H272_18 : mo_f G H272 a0 18 = mo_f G H7 a0 18 := mo_f_F hf h0 (by decide) (by decide)
        have vv_H272_15 : mo_v G H272 a0 15 = mo_v G H7 a0 15 := mo_v_F (r := 55) hB.1 hf h0 rfl ro_55 (by decide) (by decide)
        replace hF := hF.trans (congrArg (dv_k f_X12_splits_7b) (dv_bn (dv_stoI hIo hB.1 hU hb2 ow_57 (i := x3.toInt) hst272 (Eq.refl _) (by omega))))
        refine lv_aload_n hx hb dX12_splits_273 rfl (lv_at hl 0 rfl) ?_
        refine th_getO (j := 15) (r2 := 55) hC cf_X12 hB.1 h0 ro_46 rfl rfl kf_X12_54 dX12_splits_274 (fun b6 mb6 hb6 => ?_)
        refine lv_aload_n hx hb dX12_splits_277 rfl (lv_at hl 0 rfl) ?_
        refine th_getK hC cf_X12 hB.1 h0 ro_46 rfl (j := 18) (by decide) mm5 kf_X12_175 dX12_splits_278 ?_
        replace hF := hF.trans (congrArg (dv_k f_X12_splits_7b) (dv_bn (dv_getI h0 ro_46 (j := 18) rfl mm5 (by decide))))
        have fg7 : mo_f G H272 a0 18 = x3.toInt := mo_fat mm5
        refine lv_iconst (v := 0) hx hb dX12_splits_281 (by decide) ?_
        have hIo := hB.1
        refine th_iastF hC hB hb6 (Or.inl hb6) ro_55 rfl (by decide) (Eq.refl _) (by omega) (by omega) th_sIa dX12_splits_282 (fun H282 locs hB hf282 hst282 => ?_)
        have hf := hf282
        have mm8 := (th_F_o hf h0 ro_46 (j := 18) (by decide) (by decide)).trans mm5
        have hR := th_RC_F hB.1 hR hf (th_T_s hb6 ro_55 hst282) (by decide)
        have fv_H282_18 : mo_f G H282 a0 18 = mo_f G H272 a0 18 := mo_f_F hf h0 (by decide) (by decide)
        replace hF := hF.trans (congrArg (dv_k f_X12_splits_7b) (dv_bn (dv_stoI hIo hB.1 hU hb6 ow_55 (i := x3.toInt) hst282 tk_0 (by omega))))
        have vs282 : mo_v G H282 a0 15 = mo_u (mo_v G H272 a0 15) x3.toInt 0 := by rw [show (x3.toInt : Int) = x3.toInt by omega]; exact mo_v_st h0 hb6 (by decide) mb6 hst282 (by omega)
        refine lv_aload_n hx hb dX12_splits_283 rfl (lv_at hl 0 rfl) ?_
        refine th_getO (j := 16) (r2 := 56) hC cf_X12 hB.1 h0 ro_46 rfl rfl kf_X12_57 dX12_splits_284 (fun b9 mb9 hb9 => ?_)
        refine lv_aload_n hx hb dX12_splits_287 rfl (lv_at hl 0 rfl) ?_
        refine th_getK hC cf_X12 hB.1 h0 ro_46 rfl (j := 18) (by decide) mm8 kf_X12_175 dX12_splits_288 ?_
        replace hF := hF.trans (congrArg (dv_k f_X12_splits_7b) (dv_bn (dv_getI h0 ro_46 (j := 18) rfl mm8 (by decide))))
        have fg10 : mo_f G H282 a0 18 = x3.toInt := mo_fat mm8
        refine lv_iconst (v := 0) hx hb dX12_splits_291 (by decide) ?_
        have hIo := hB.1
        refine th_iastF hC hB hb9 (Or.inl hb9) ro_56 rfl (by decide) (Eq.refl _) (by omega) (by omega) th_sIa dX12_splits_292 (fun H292 locs hB hf292 hst292 => ?_)
        have hf := hf292
        have mm11 := (th_F_o hf h0 ro_46 (j := 18) (by decide) (by decide)).trans mm8
        have hR := th_RC_F hB.1 hR hf (th_T_s hb9 ro_56 hst292) (by decide)
        have fv_H292_18 : mo_f G H292 a0 18 = mo_f G H282 a0 18 := mo_f_F hf h0 (by decide) (by decide)
        have vv_H292_15 : mo_v G H292 a0 15 = mo_v G H282 a0 15 := mo_v_F (r := 55) hB.1 hf h0 rfl ro_55 (by decide) (by decide)
        replace hF := hF.trans (congrArg (dv_k f_X12_splits_7b) (dv_bn (dv_stoI hIo hB.1 hU hb9 ow_56 (i := x3.toInt) hst292 tk_0 (by omega))))
        replace hF := hF.trans (dv_kr)
        exact th_vret hC hH hr hlocks hB.2.1 ⟨rfl, hB.1, hB.2.2, hR, by rw [vv_H292_15, vs282]; exact mo_us (by omega), (hF0.symm.trans hF)⟩ dX12_splits_293
      · replace hF := hF.trans (congrArg (dv_k f_X12_splits_7b) (if_neg (Int.not_le.mpr c9)))
        refine lv_aload_n hx hb dX12_splits_12 rfl (lv_at hl 0 rfl) ?_
        refine th_getO (j := 11) (r2 := 53) hC cf_X12 hB.1 h0 ro_46 rfl rfl kf_X12_45 dX12_splits_13 (fun b12 mb12 hb12 => ?_)
        have sb12 := (th_F_o hB.2.2 h0 ro_46 (j := 11) (by decide) (by decide)).symm.trans mb12
        refine lv_iload_n hx hb dX12_splits_16 rfl (lv_at hl 2 rfl) ?_
        refine th_baldF hC hB.1 hb12 ro_53 rfl (Eq.refl _) (by omega) (by omega) rfl dX12_splits_17 (fun x13 mx13 lx13 ux13 => ?_)
        replace hF := hF.trans (congrArg (dv_k f_X12_splits_7b) (dv_bn (dv_aldI hB.1 hU hb12 ow_53 (z := j7_2.toInt) mx13 (by omega))))
        refine lv_istore_n (lv' := [(3, .int x13), (0, .ref a0), (1, .int p1), (2, .int j7_2)]) hx hb dX12_splits_18 rfl hl (by decide) rfl (fun ls hl => ?_)
        refine lv_iload_n hx hb dX12_splits_19 rfl (lv_at hl 0 rfl) ?_
        refine lv_bipush (v := 32) hx hb dX12_splits_20 (by decide) ?_
        refine tr_icmp_ne (tgt := 31) hx hb dX12_splits_22 (by decide) (Eq.refl _) tk_32 (fun c22 => ?_) (fun c22 => ?_)
        · replace hF := hF.trans (congrArg (dv_k f_X12_splits_7b) (if_pos c22))
          refine lv_iload_n hx hb dX12_splits_31 rfl (lv_at hl 3 rfl) ?_
          refine lv_iconst (v := 1) hx hb dX12_splits_32 (by decide) ?_
          refine tr_iadd hx hb dX12_splits_33 (Eq.refl _) tk_1 (by omega) (by omega) (fun x14 ex14 => ?_)
          replace hF := hF.trans (congrArg (dv_k f_X12_splits_7b) (dv_bn (ex14.symm)))
          refine lv_istore (lv' := [(4, .int x14), (3, .int x13), (0, .ref a0), (1, .int p1), (2, .int j7_2)]) hx hb dX12_splits_34 hl (by decide) rfl (fun ls hl => ?_)
          refine lv_iload_n hx hb dX12_splits_36 rfl (lv_at hl 1 rfl) ?_
          refine th_call (th_runS (As := [.int x13]) (rest := []) hC mf_X12_isSmall km_X12_178 st_X12_isSmall (c_X12_isSmall l G Γ H7 hB.1 hU x13) rfl rfl ⟨Nat.le_of_ble_eq_true rfl, Nat.le_of_ble_eq_true rfl⟩ rfl hl.1 rfl (Nat.le_of_ble_eq_true rfl) dX12_splits_37 ⟨Nat.le_refl _, Nat.le_refl _⟩) hB.2.1 (fun v37 H37 locs hp hz hS => ?_)
          obtain ⟨x15, rfl, lx15, ux15, q37_0, rfl⟩ := hp
          have hB := th_B_s hB hS
          replace hF := hF.trans (congrArg (dv_k f_X12_splits_7b) (dv_bn2 (q37_0)))
          refine W.eq (g2 := F0 m 40 ls [.int x15]) rfl ?_
          have jn68 : ∀ (locs : List Loc) (ls : Array Slot) (j68_4 : Int32), th_B G Γ Γ [(46, 18), (57, 0), (56, 0), (55, 0)] H0 H7 locs → lv_has ls 6 [(3, .int x13), (0, .ref a0), (1, .int p1), (2, .int j7_2), (4, .int j68_4)] → F = dv_k f_X12_splits_7b (f_X12_splits_68 (dv G Γ H7) (x13.toInt) ((a0 : Int)) (p1.toInt) (j7_2.toInt) (j68_4.toInt)) → 1 ≤ j68_4.toInt → j68_4.toInt ≤ 400 → j7_2.toInt + 1 ≤ j68_4.toInt → j68_4.toInt ≤ p1.toInt → W p l e ({ frames := 1, cells := 0, slots := 0, locals := 27 } : Room) s m ([.ref a0, .int p1] : List Value).toArray below meth c H7 locs 0 0 (MQ below (th_Q (fun (v : Option Value) (H1 : Heap) => v = none ∧ th_I G Γ H1 ∧ th_F G Γ [(46, 18), (57, 0), (56, 0), (55, 0)] H0 H1 ∧ th_RC G Γ H1 ∧ (mo_v G H1 a0 15 (mo_f G H1 a0 18) = 0) ∧ (f_X12_splits (dv G Γ H0) (a0 : Int) p1.toInt = (dv G Γ H1, 0))) G) ([.ref a0, .int p1] : List Value).toArray s 0 0 (fun q => G.2.2 ≤ q)) (F0 m 68 ls []) := by
            intro locs ls j68_4 hB hl hF g68_0 g68_1 g68_2 g68_3
            have lj68_4 := ti_lo j68_4; have uj68_4 := ti_hi j68_4
            replace hF := hF.trans (congrArg (dv_k f_X12_splits_7b) (f_X12_splits_68.eq_1 (dv G Γ H7) (x13.toInt) ((a0 : Int)) (p1.toInt) (j7_2.toInt) (j68_4.toInt)))
            refine lv_iload_n hx hb dX12_splits_68 rfl (lv_at hl 0 rfl) ?_
            refine th_call (th_runS (As := [.int x13]) (rest := []) hC mf_X12_isDigit km_X12_181 st_X12_isDigit (c_X12_isDigit l G Γ H7 hB.1 hU x13) rfl rfl ⟨Nat.le_of_ble_eq_true rfl, Nat.le_of_ble_eq_true rfl⟩ rfl hl.1 rfl (Nat.le_of_ble_eq_true rfl) dX12_splits_69 ⟨Nat.le_refl _, Nat.le_refl _⟩) hB.2.1 (fun v69 H69 locs hp hz hS => ?_)
            obtain ⟨x16, rfl, lx16, ux16, q69_0, rfl⟩ := hp
            have hB := th_B_s hB hS
            replace hF := hF.trans (congrArg (dv_k f_X12_splits_7b) (dv_bn2 (q69_0)))
            refine W.eq (g2 := F0 m 72 ls [.int x16]) rfl ?_
            have jn100 : ∀ (locs : List Loc) (ls : Array Slot) (j100_4 : Int32), th_B G Γ Γ [(46, 18), (57, 0), (56, 0), (55, 0)] H0 H7 locs → lv_has ls 6 [(3, .int x13), (0, .ref a0), (1, .int p1), (2, .int j7_2), (4, .int j100_4)] → F = dv_k f_X12_splits_7b (f_X12_splits_100 (dv G Γ H7) (x13.toInt) ((a0 : Int)) (p1.toInt) (j7_2.toInt) (j100_4.toInt)) → 1 ≤ j100_4.toInt → j100_4.toInt ≤ 400 → j7_2.toInt + 1 ≤ j100_4.toInt → j100_4.toInt ≤ p1.toInt → W p l e ({ frames := 1, cells := 0, slots := 0, locals := 27 } : Room) s m ([.ref a0, .int p1] : List Value).toArray below meth c H7 locs 0 0 (MQ below (th_Q (fun (v : Option Value) (H1 : Heap) => v = none ∧ th_I G Γ H1 ∧ th_F G Γ [(46, 18), (57, 0), (56, 0), (55, 0)] H0 H1 ∧ th_RC G Γ H1 ∧ (mo_v G H1 a0 15 (mo_f G H1 a0 18) = 0) ∧ (f_X12_splits (dv G Γ H0) (a0 : Int) p1.toInt = (dv G Γ H1, 0))) G) ([.ref a0, .int p1] : List Value).toArray s 0 0 (fun q => G.2.2 ≤ q)) (F0 m 100 ls []) := by
              intro locs ls j100_4 hB hl hF g100_0 g100_1 g100_2 g100_3
              have lj100_4 := ti_lo j100_4; have uj100_4 := ti_hi j100_4
              replace hF := hF.trans (congrArg (dv_k f_X12_splits_7b) (f_X12_splits_100.eq_1 (dv G Γ H7) (x13.toInt) ((a0 : Int)) (p1.toInt) (j7_2.toInt) (j100_4.toInt)))
              refine lv_aload_n hx hb dX12_splits_100 rfl (lv_at hl 1 rfl) ?_
              refine th_getO (j := 17) (r2 := 57) hC cf_X12 hB.1 h0 ro_46 rfl rfl kf_X12_60 dX12_splits_101 (fun b17 mb17 hb17 => ?_)
              have sb17 := (th_F_o hB.2.2 h0 ro_46 (j := 17) (by decide) (by decide)).symm.trans mb17
              refine lv_aload_n hx hb dX12_splits_104 rfl (lv_at hl 1 rfl) ?_
              refine th_getI (j := 18) hC cf_X12 hB.1 h0 ro_46 rfl rfl kf_X12_175 dX12_splits_105 (fun x18 mx18 lx18 ux18 => ?_)
              replace hF := hF.trans (congrArg (dv_k f_X12_splits_7b) (dv_bn (dv_getI h0 ro_46 (j := 18) rfl mx18 (by decide))))
              have fg19 : mo_f G H7 a0 18 = x18.toInt := mo_fat mx18
              refine lv_iload_n hx hb dX12_splits_108 rfl (lv_at hl 3 rfl) ?_
              have hIo := hB.1
              refine th_iastF hC hB hb17 (Or.inl hb17) ro_57 rfl (by decide) (Eq.refl _) (by omega) (by omega) (th_sI (by omega) (by omega)) dX12_splits_109 (fun H109 locs hB hf109 hst109 => ?_)
              have hf := hf109
              have mm20 := (th_F_o hf h0 ro_46 (j := 11) (by decide) (by decide)).trans mb12
              have mm21 := (th_F_o hf h0 ro_46 (j := 17) (by decide) (by decide)).trans mb17
              have mm22 := (th_F_o hf h0 ro_46 (j := 18) (by decide) (by decide)).trans mx18
              have hR := th_RC_F hB.1 hR hf (th_T_s hb17 ro_57 hst109) (by decide)
              have fv_H109_18 : mo_f G H109 a0 18 = mo_f G H7 a0 18 := mo_f_F hf h0 (by decide) (by decide)
              have vv_H109_15 : mo_v G H109 a0 15 = mo_v G H7 a0 15 := mo_v_F (r := 55) hB.1 hf h0 rfl ro_55 (by decide) (by decide)
              replace hF := hF.trans (congrArg (dv_k f_X12_splits_7b) (dv_bn (dv_stoI hIo hB.1 hU hb17 ow_57 (i := x18.toInt) hst109 (Eq.refl _) (by omega))))
              refine lv_aload_n hx hb dX12_splits_110 rfl (lv_at hl 1 rfl) ?_
              refine th_getO (j := 16) (r2 := 56) hC cf_X12 hB.1 h0 ro_46 rfl rfl kf_X12_57 dX12_splits_111 (fun b23 mb23 hb23 => ?_)
              have sb23 := (th_F_o hB.2.2 h0 ro_46 (j := 16) (by decide) (by decide)).symm.trans mb23
              refine lv_aload_n hx hb dX12_splits_114 rfl (lv_at hl 1 rfl) ?_
              refine th_getK hC cf_X12 hB.1 h0 ro_46 rfl (j := 18) (by decide) mm22 kf_X12_175 dX12_splits_115 ?_
              replace hF := hF.trans (congrArg (dv_k f_X12_splits_7b) (dv_bn (dv_getI h0 ro_46 (j := 18) rfl mm22 (by decide))))
              have fg24 : mo_f G H109 a0 18 = x18.toInt := mo_fat mm22
              refine lv_iconst (v := 0) hx hb dX12_splits_118 (by decide) ?_
              have hIo := hB.1
              refine th_iastF hC hB hb23 (Or.inl hb23) ro_56 rfl (by decide) (Eq.refl _) (by omega) (by omega) th_sIa dX12_splits_119 (fun H119 locs hB hf119 hst119 => ?_)
              have hf := hf119
              have mm25 := (th_F_o hf h0 ro_46 (j := 11) (by decide) (by decide)).trans mm20
              have mm26 := (th_F_o hf h0 ro_46 (j := 17) (by decide) (by decide)).trans mm21
              have mm27 := (th_F_o hf h0 ro_46 (j := 18) (by decide) (by decide)).trans mm22
              have mm28 := (th_F_o hf h0 ro_46 (j := 16) (by decide) (by decide)).trans mb23
              have hR := th_RC_F hB.1 hR hf (th_T_s hb23 ro_56 hst119) (by decide)
              have fv_H119_18 : mo_f G H119 a0 18 = mo_f G H109 a0 18 := mo_f_F hf h0 (by decide) (by decide)
              have vv_H119_15 : mo_v G H119 a0 15 = mo_v G H109 a0 15 := mo_v_F (r := 55) hB.1 hf h0 rfl ro_55 (by decide) (by decide)
              replace hF := hF.trans (congrArg (dv_k f_X12_splits_7b) (dv_bn (dv_stoI hIo hB.1 hU hb23 ow_56 (i := x18.toInt) hst119 tk_0 (by omega))))
              refine lv_aload_n hx hb dX12_splits_120 rfl (lv_at hl 1 rfl) ?_
              refine th_getO (j := 15) (r2 := 55) hC cf_X12 hB.1 h0 ro_46 rfl rfl kf_X12_54 dX12_splits_121 (fun b29 mb29 hb29 => ?_)
              have sb29 := (th_F_o hB.2.2 h0 ro_46 (j := 15) (by decide) (by decide)).symm.trans mb29
              refine lv_aload_n hx hb dX12_splits_124 rfl (lv_at hl 1 rfl) ?_
              refine th_getK hC cf_X12 hB.1 h0 ro_46 rfl (j := 18) (by decide) mm27 kf_X12_175 dX12_splits_125 ?_
              replace hF := hF.trans (congrArg (dv_k f_X12_splits_7b) (dv_bn (dv_getI h0 ro_46 (j := 18) rfl mm27 (by decide))))
              have fg30 : mo_f G H119 a0 18 = x18.toInt := mo_fat mm27
              refine lv_iload_n hx hb dX12_splits_128 rfl (lv_at hl 0 rfl) ?_
              refine th_call (th_runS (As := [.int x13]) (rest := [.int x18, .ref b29]) hC mf_X12_isSmall km_X12_178 st_X12_isSmall (c_X12_isSmall l G Γ H119 hB.1 hU x13) rfl rfl ⟨Nat.le_of_ble_eq_true rfl, Nat.le_of_ble_eq_true rfl⟩ rfl hl.1 rfl (Nat.le_of_ble_eq_true rfl) dX12_splits_129 ⟨Nat.le_refl _, Nat.le_refl _⟩) hB.2.1 (fun v129 H129 locs hp hz hS => ?_)
              obtain ⟨x31, rfl, lx31, ux31, q129_0, rfl⟩ := hp
              have hB := th_B_s hB hS
              replace hF := hF.trans (congrArg (dv_k f_X12_splits_7b) (dv_bn2 (q129_0)))
              refine W.eq (g2 := F0 m 132 ls [.int x31, .int x18, .ref b29]) rfl ?_
              have jn165 : ∀ (locs : List Loc) (ls : Array Slot) (s165_2 : Int32), th_B G Γ Γ [(46, 18), (57, 0), (56, 0), (55, 0)] H0 H119 locs → lv_has ls 6 [(3, .int x13), (0, .ref a0), (1, .int p1), (2, .int j7_2), (4, .int j100_4)] → F = dv_k f_X12_splits_7b (f_X12_splits_165 (dv G Γ H119) (x13.toInt) ((a0 : Int)) (p1.toInt) (j7_2.toInt) (j100_4.toInt) (x18.toInt) (s165_2.toInt)) → W p l e ({ frames := 1, cells := 0, slots := 0, locals := 27 } : Room) s m ([.ref a0, .int p1] : List Value).toArray below meth c H119 locs 0 0 (MQ below (th_Q (fun (v : Option Value) (H1 : Heap) => v = none ∧ th_I G Γ H1 ∧ th_F G Γ [(46, 18), (57, 0), (56, 0), (55, 0)] H0 H1 ∧ th_RC G Γ H1 ∧ (mo_v G H1 a0 15 (mo_f G H1 a0 18) = 0) ∧ (f_X12_splits (dv G Γ H0) (a0 : Int) p1.toInt = (dv G Γ H1, 0))) G) ([.ref a0, .int p1] : List Value).toArray s 0 0 (fun q => G.2.2 ≤ q)) (F0 m 165 ls [.int s165_2, .int x18, .ref b29]) := by
                intro locs ls s165_2 hB hl hF
                have ls165_2 := ti_lo s165_2; have us165_2 := ti_hi s165_2
                replace hF := hF.trans (congrArg (dv_k f_X12_splits_7b) (f_X12_splits_165.eq_1 (dv G Γ H119) (x13.toInt) ((a0 : Int)) (p1.toInt) (j7_2.toInt) (j100_4.toInt) (x18.toInt) (s165_2.toInt)))
                have hIo := hB.1
                refine th_iastF hC hB hb29 (Or.inl hb29) ro_55 rfl (by decide) (Eq.refl _) (by omega) (by omega) th_sIa dX12_splits_165 (fun H165 locs hB hf165 hst165 => ?_)
                have hf := hf165
                have mm32 := (th_F_o hf h0 ro_46 (j := 11) (by decide) (by decide)).trans mm25
                have mm33 := (th_F_o hf h0 ro_46 (j := 17) (by decide) (by decide)).trans mm26
                have mm34 := (th_F_o hf h0 ro_46 (j := 18) (by decide) (by decide)).trans mm27
                have mm35 := (th_F_o hf h0 ro_46 (j := 16) (by decide) (by decide)).trans mm28
                have mm36 := (th_F_o hf h0 ro_46 (j := 15) (by decide) (by decide)).trans mb29
                have hR := th_RC_F hB.1 hR hf (th_T_s hb29 ro_55 hst165) (by decide)
                have fv_H165_18 : mo_f G H165 a0 18 = mo_f G H119 a0 18 := mo_f_F hf h0 (by decide) (by decide)
                replace hF := hF.trans (congrArg (dv_k f_X12_splits_7b) (dv_bn (dv_stoI hIo hB.1 hU hb29 ow_55 (i := x18.toInt) hst165 (Eq.refl _) (by omega))))
                have vs165 : mo_v G H165 a0 15 = mo_u (mo_v G H119 a0 15) x18.toInt s165_2.toInt := by rw [show (x18.toInt : Int) = x18.toInt by omega]; exact mo_v_st h0 hb29 (by decide) mb29 hst165 (by omega)
                refine lv_iload_n hx hb dX12_splits_166 rfl (lv_at hl 3 rfl) ?_
                refine lv_istore (lv' := [(5, .int j7_2), (3, .int x13), (0, .ref a0), (1, .int p1), (2, .int j7_2), (4, .int j100_4)]) hx hb dX12_splits_167 hl (by decide) rfl (fun ls hl => ?_)
                have lp169 : ∀ (n169 : Nat) (H169 : Heap) (locs : List Loc) (ls : Array Slot) (j169_5 : Int32), th_B G Γ Γ [(46, 18), (57, 0), (56, 0), (55, 0)] H0 H169 locs → th_RC G Γ H169 → lv_has ls 6 [(3, .int x13), (0, .ref a0), (1, .int p1), (4, .int j100_4), (5, .int j169_5)] → F = dv_k f_X12_splits_7b (dv_lp f_X12_splits_169b (dv G Γ H169, x13.toInt, (a0 : Int), p1.toInt, j100_4.toInt, j169_5.toInt)) → 0 ≤ j169_5.toInt → j169_5.toInt ≤ 400 → (mo_f G H169 a0 18 ≤ j7_2.toInt) → j169_5.toInt ≥ 0 → th_sl H169 a0 (G.1.2 12 18) = .int x18 → (2147483648 : Int) - j169_5.toInt ≤ (n169 : Int) → W p l e ({ frames := 1, cells := 0, slots := 0, locals := 27 } : Room) s m ([.ref a0, .int p1] : List Value).toArray below meth c H169 locs 0 0 (MQ below (th_Q (fun (v : Option Value) (H1 : Heap) => v = none ∧ th_I G Γ H1 ∧ th_F G Γ [(46, 18), (57, 0), (56, 0), (55, 0)] H0 H1 ∧ th_RC G Γ H1 ∧ (mo_v G H1 a0 15 (mo_f G H1 a0 18) = 0) ∧ (f_X12_splits (dv G Γ H0) (a0 : Int) p1.toInt = (dv G Γ H1, 0))) G) ([.ref a0, .int p1] : List Value).toArray s 0 0 (fun q => G.2.2 ≤ q)) (F0 m 169 ls []) := by
                  intro n169
                  induction n169 with
                  | zero => intro H169 locs ls j169_5 hB hR hl hF g169_0 g169_1 g169_2 g169_3 g169_4 hm169; exact absurd hm169 (by have := ti_hi j169_5; omega)
                  | succ n169 ih169 =>
                    intro H169 locs ls j169_5 hB hR hl hF g169_0 g169_1 g169_2 g169_3 g169_4 hm169
                    have lj169_5 := ti_lo j169_5; have uj169_5 := ti_hi j169_5
                    have mm37 := (th_F_o hB.2.2 h0 ro_46 (j := 11) (by decide) (by decide)).trans sb12
                    have mm38 := (th_F_o hB.2.2 h0 ro_46 (j := 17) (by decide) (by decide)).trans sb17
                    have mm39 := (th_F_o hB.2.2 h0 ro_46 (j := 16) (by decide) (by decide)).trans sb23
                    have mm40 := (th_F_o hB.2.2 h0 ro_46 (j := 15) (by decide) (by decide)).trans sb29
                    have hm169 : (2147483648 : Int) - j169_5.toInt ≤ (n169 : Int) + 1 := by omega
                    replace hF := hF.trans (congrArg (dv_k f_X12_splits_7b) (dv_lp_eq))
                    replace hF := hF.trans (congrArg (dv_k f_X12_splits_7b) (congrArg (dv_k f_X12_splits_169b) (f_X12_splits_169c.eq_1 (dv G Γ H169) (x13.toInt) ((a0 : Int)) (p1.toInt) (j100_4.toInt) (j169_5.toInt))))
                    refine lv_iload hx hb dX12_splits_169 (lv_at hl 4 rfl) ?_
                    refine lv_iload hx hb dX12_splits_171 (lv_at hl 3 rfl) ?_
                    have jn247 : ∀ (locs : List Loc) (ls : Array Slot) , th_B G Γ Γ [(46, 18), (57, 0), (56, 0), (55, 0)] H0 H169 locs → lv_has ls 6 [(0, .ref a0), (1, .int p1), (4, .int j100_4)] → F = dv_k f_X12_splits_7b (dv_k f_X12_splits_169b (f_X12_splits_247 (dv G Γ H169) ((a0 : Int)) (p1.toInt) (j100_4.toInt))) → (mo_f G H169 a0 18 ≤ j7_2.toInt) → W p l e ({ frames := 1, cells := 0, slots := 0, locals := 27 } : Room) s m ([.ref a0, .int p1] : List Value).toArray below meth c H169 locs 0 0 (MQ below (th_Q (fun (v : Option Value) (H1 : Heap) => v = none ∧ th_I G Γ H1 ∧ th_F G Γ [(46, 18), (57, 0), (56, 0), (55, 0)] H0 H1 ∧ th_RC G Γ H1 ∧ (mo_v G H1 a0 15 (mo_f G H1 a0 18) = 0) ∧ (f_X12_splits (dv G Γ H0) (a0 : Int) p1.toInt = (dv G Γ H1, 0))) G) ([.ref a0, .int p1] : List Value).toArray s 0 0 (fun q => G.2.2 ≤ q)) (F0 m 247 ls []) := by
                      intro locs ls hB hl hF g247_0
                      replace hF := hF.trans (congrArg (dv_k f_X12_splits_7b) (congrArg (dv_k f_X12_splits_169b) (f_X12_splits_247.eq_1 (dv G Γ H169) ((a0 : Int)) (p1.toInt) (j100_4.toInt))))
                      refine lv_aload_n hx hb dX12_splits_247 rfl (lv_at hl 0 rfl) ?_
                      refine lv_dup hx hb dX12_splits_248 rfl ?_
                      refine th_getK hC cf_X12 hB.1 h0 ro_46 rfl (j := 18) (by decide) g169_4 kf_X12_175 dX12_splits_249 ?_
                      replace hF := hF.trans (congrArg (dv_k f_X12_splits_7b) (congrArg (dv_k f_X12_splits_169b) (dv_bn (dv_getI h0 ro_46 (j := 18) rfl g169_4 (by decide)))))
                      have fg41 : mo_f G H169 a0 18 = x18.toInt := mo_fat g169_4
                      refine lv_iconst (v := 1) hx hb dX12_splits_252 (by decide) ?_
                      refine tr_iadd hx hb dX12_splits_253 (Eq.refl _) tk_1 (by omega) (by omega) (fun x42 ex42 => ?_)
                      replace hF := hF.trans (congrArg (dv_k f_X12_splits_7b) (congrArg (dv_k f_X12_splits_169b) (dv_bn (ex42.symm))))
                      refine th_put hC cf_X12 hB h0 (Or.inl h0) ro_46 rfl (j := 18) rfl (th_sI (by omega) (by omega)) (by decide) rfl rfl rfl kf_X12_175 dX12_splits_254 (fun H254 locs hB hf hst254 => ?_)
                      have mm43 := (th_F_o hf h0 ro_46 (j := 11) (by decide) (by decide)).trans mm37
                      have mm44 := (th_F_o hf h0 ro_46 (j := 17) (by decide) (by decide)).trans mm38
                      have mm45 := (th_F_o hf h0 ro_46 (j := 16) (by decide) (by decide)).trans mm39
                      have mm46 := (th_F_o hf h0 ro_46 (j := 15) (by decide) (by decide)).trans mm40
                      have hR := th_RC_F hB.1 hR hf (th_T_s h0 ro_46 hst254) (by decide)
                      have vv_H254_15 : mo_v G H254 a0 15 = mo_v G H169 a0 15 := mo_v_F (r := 55) hB.1 hf h0 rfl ro_55 (by decide) (by decide)
                      replace hF := hF.trans (congrArg (dv_k f_X12_splits_7b) (congrArg (dv_k f_X12_splits_169b) (dv_bn (dv_putI hB.1 h0 ro_46 (j := 18) rfl (th_apart hC cf_X12) hst254 (Eq.refl _) (by decide)))))
                      have fp254 : mo_f G H254 a0 18 = x42.toInt := mo_f_St hst254
                      have mm47 := hst254.2.1
                      refine lv_iload hx hb dX12_splits_257 (lv_at hl 2 rfl) ?_
                      refine lv_istore_n (lv' := [(2, .int j100_4), (0, .ref a0), (1, .int p1), (4, .int j100_4)]) hx hb dX12_splits_259 rfl hl (by decide) rfl (fun ls hl => ?_)
                      refine lv_goto (tgt := 7) hx hb dX12_splits_260 (by decide) ?_
                      replace hF := hF.trans (congrArg (dv_k f_X12_splits_7b) (dv_kr))
                      replace hF := hF.trans (dv_kl)
                      exact ih7 H254 locs ls j100_4 hB hR (lv_sub hl [1, 2, 0] rfl) hF (by omega) (by omega) (by omega) (by omega) (by omega)
                    refine tr_icmp_ge (tgt := 247) hx hb dX12_splits_173 (by decide) (Eq.refl _) (Eq.refl _) (fun c173 => ?_) (fun c173 => ?_)
                    · replace hF := hF.trans (congrArg (dv_k f_X12_splits_7b) (congrArg (dv_k f_X12_splits_169b) (if_pos c173)))
                      exact jn247 locs ls hB (lv_sub hl [1, 2, 3] rfl) hF (by omega)
                    · replace hF := hF.trans (congrArg (dv_k f_X12_splits_7b) (congrArg (dv_k f_X12_splits_169b) (if_neg (Int.not_le.mpr c173))))
                      refine lv_iload_n hx hb dX12_splits_176 rfl (lv_at hl 0 rfl) ?_
                      refine th_call (th_runS (As := [.int x13]) (rest := []) hC mf_X12_isDigit km_X12_181 st_X12_isDigit (c_X12_isDigit l G Γ H169 hB.1 hU x13) rfl rfl ⟨Nat.le_of_ble_eq_true rfl, Nat.le_of_ble_eq_true rfl⟩ rfl hl.1 rfl (Nat.le_of_ble_eq_true rfl) dX12_splits_177 ⟨Nat.le_refl _, Nat.le_refl _⟩) hB.2.1 (fun v177 H177 locs hp hz hS => ?_)
                      obtain ⟨x48, rfl, lx48, ux48, q177_0, rfl⟩ := hp
                      have hB := th_B_s hB hS
                      replace hF := hF.trans (congrArg (dv_k f_X12_splits_7b) (congrArg (dv_k f_X12_splits_169b) (dv_bn2 (q177_0))))
                      refine W.eq (g2 := F0 m 180 ls [.int x48]) rfl ?_
                      refine tr_if_eq (tgt := 247) hx hb dX12_splits_180 (by decide) (Eq.refl _) (fun c180 => ?_) (fun c180 => ?_)
                      · replace hF := hF.trans (congrArg (dv_k f_X12_splits_7b) (congrArg (dv_k f_X12_splits_169b) (if_pos c180)))
                        exact jn247 locs ls hB (lv_sub hl [1, 2, 3] rfl) hF (by omega)
                      · replace hF := hF.trans (congrArg (dv_k f_X12_splits_7b) (congrArg (dv_k f_X12_splits_169b) (if_neg c180)))
                        refine lv_aload_n hx hb dX12_splits_183 rfl (lv_at hl 1 rfl) ?_
                        refine th_getK hC cf_X12 hB.1 h0 ro_46 rfl (j := 16) (by decide) mm39 kf_X12_57 dX12_splits_184 ?_
                        refine lv_aload_n hx hb dX12_splits_187 rfl (lv_at hl 1 rfl) ?_
                        refine th_getK hC cf_X12 hB.1 h0 ro_46 rfl (j := 18) (by decide) g169_4 kf_X12_175 dX12_splits_188 ?_
                        replace hF := hF.trans (congrArg (dv_k f_X12_splits_7b) (congrArg (dv_k f_X12_splits_169b) (dv_bn (dv_getI h0 ro_46 (j := 18) rfl g169_4 (by decide)))))
                        have fg49 : mo_f G H169 a0 18 = x18.toInt := mo_fat g169_4
                        refine lv_aload_n hx hb dX12_splits_191 rfl (lv_at hl 1 rfl) ?_
                        refine th_getK hC cf_X12 hB.1 h0 ro_46 rfl (j := 16) (by decide) mm39 kf_X12_57 dX12_splits_192 ?_
                        refine lv_aload_n hx hb dX12_splits_195 rfl (lv_at hl 1 rfl) ?_
                        refine th_getK hC cf_X12 hB.1 h0 ro_46 rfl (j := 18) (by decide) g169_4 kf_X12_175 dX12_splits_196 ?_
                        replace hF := hF.trans (congrArg (dv_k f_X12_splits_7b) (congrArg (dv_k f_X12_splits_169b) (dv_bn (dv_getI h0 ro_46 (j := 18) rfl g169_4 (by decide)))))
                        have fg50 : mo_f G H169 a0 18 = x18.toInt := mo_fat g169_4
                        refine th_ialdF hC hB.1 hb23 ro_56 rfl (Eq.refl _) (by omega) (by omega) rfl dX12_splits_199 (fun x51 mx51 lx51 ux51 => ?_)
                        replace hF := hF.trans (congrArg (dv_k f_X12_splits_7b) (congrArg (dv_k f_X12_splits_169b) (dv_bn (dv_aldI hB.1 hU hb23 ow_56 (z := x18.toInt) mx51 (by omega)))))
                        refine lv_ldc (v := 1000000) hx hb hC.2.2.2.1 (hC.2.2.2.2.1 _ kw_1623) dX12_splits_200 ?_
                        have jn240 : ∀ (locs : List Loc) (ls : Array Slot) (s240_2 : Int32), th_B G Γ Γ [(46, 18), (57, 0), (56, 0), (55, 0)] H0 H169 locs → lv_has ls 6 [(3, .int x13), (0, .ref a0), (1, .int p1), (4, .int j100_4), (5, .int j169_5)] → F = dv_k f_X12_splits_7b (dv_k f_X12_splits_169b (f_X12_splits_240 (dv G Γ H169) (x13.toInt) ((a0 : Int)) (p1.toInt) (j100_4.toInt) (j169_5.toInt) (x18.toInt) (s240_2.toInt))) → W p l e ({ frames := 1, cells := 0, slots := 0, locals := 27 } : Room) s m ([.ref a0, .int p1] : List Value).toArray below meth c H169 locs 0 0 (MQ below (th_Q (fun (v : Option Value) (H1 : Heap) => v = none ∧ th_I G Γ H1 ∧ th_F G Γ [(46, 18), (57, 0), (56, 0), (55, 0)] H0 H1 ∧ th_RC G Γ H1 ∧ (mo_v G H1 a0 15 (mo_f G H1 a0 18) = 0) ∧ (f_X12_splits (dv G Γ H0) (a0 : Int) p1.toInt = (dv G Γ H1, 0))) G) ([.ref a0, .int p1] : List Value).toArray s 0 0 (fun q => G.2.2 ≤ q)) (F0 m 240 ls [.int s240_2, .int x18, .ref b23]) := by
                          intro locs ls s240_2 hB hl hF
                          have ls240_2 := ti_lo s240_2; have us240_2 := ti_hi s240_2
                          replace hF := hF.trans (congrArg (dv_k f_X12_splits_7b) (congrArg (dv_k f_X12_splits_169b) (f_X12_splits_240.eq_1 (dv G Γ H169) (x13.toInt) ((a0 : Int)) (p1.toInt) (j100_4.toInt) (j169_5.toInt) (x18.toInt) (s240_2.toInt))))
                          have hIo := hB.1
                          refine th_iastF hC hB hb23 (Or.inl hb23) ro_56 rfl (by decide) (Eq.refl _) (by omega) (by omega) th_sIa dX12_splits_240 (fun H240 locs hB hf240 hst240 => ?_)
                          have hf := hf240
                          have mm52 := (th_F_o hf h0 ro_46 (j := 18) (by decide) (by decide)).trans g169_4
                          have mm53 := (th_F_o hf h0 ro_46 (j := 11) (by decide) (by decide)).trans mm37
                          have mm54 := (th_F_o hf h0 ro_46 (j := 17) (by decide) (by decide)).trans mm38
                          have mm55 := (th_F_o hf h0 ro_46 (j := 16) (by decide) (by decide)).trans mm39
                          have mm56 := (th_F_o hf h0 ro_46 (j := 15) (by decide) (by decide)).trans mm40
                          have hR := th_RC_F hB.1 hR hf (th_T_s hb23 ro_56 hst240) (by decide)
                          have fv_H240_18 : mo_f G H240 a0 18 = mo_f G H169 a0 18 := mo_f_F hf h0 (by decide) (by decide)
                          have vv_H240_15 : mo_v G H240 a0 15 = mo_v G H169 a0 15 := mo_v_F (r := 55) hB.1 hf h0 rfl ro_55 (by decide) (by decide)
                          replace hF := hF.trans (congrArg (dv_k f_X12_splits_7b) (congrArg (dv_k f_X12_splits_169b) (dv_bn (dv_stoI hIo hB.1 hU hb23 ow_56 (i := x18.toInt) hst240 (Eq.refl _) (by omega)))))
                          refine tr_iinc (fun x57 => [(5, .int x57), (3, .int x13), (0, .ref a0), (1, .int p1), (4, .int j100_4)]) hx hb dX12_splits_241 hl (k := 4) rfl (Eq.refl _) tk_1 (by omega) (by omega) (by decide) (fun _ => rfl) (fun x57 ls ex57 hl => ?_)
                          replace hF := hF.trans (congrArg (dv_k f_X12_splits_7b) (congrArg (dv_k f_X12_splits_169b) (dv_bn (ex57.symm))))
                          refine lv_goto (tgt := 169) hx hb dX12_splits_244 (by decide) ?_
                          replace hF := hF.trans (congrArg (dv_k f_X12_splits_7b) (dv_kl))
                          exact ih169 H240 locs ls x57 hB hR (lv_sub hl [1, 2, 3, 4, 0] rfl) hF (by omega) (by omega) (by omega) (by omega) mm52 (by omega)
                        refine tr_icmp_le (tgt := 217) hx hb dX12_splits_202 (by decide) (Eq.refl _) tk_1000000 (fun c202 => ?_) (fun c202 => ?_)
                        · replace hF := hF.trans (congrArg (dv_k f_X12_splits_7b) (congrArg (dv_k f_X12_splits_169b) (if_pos c202)))
                          refine lv_bipush (v := 10) hx hb dX12_splits_217 (by decide) ?_
                          refine lv_aload_n hx hb dX12_splits_219 rfl (lv_at hl 1 rfl) ?_
                          refine th_getK hC cf_X12 hB.1 h0 ro_46 rfl (j := 16) (by decide) mm39 kf_X12_57 dX12_splits_220 ?_
                          refine lv_aload_n hx hb dX12_splits_223 rfl (lv_at hl 1 rfl) ?_
                          refine th_getK hC cf_X12 hB.1 h0 ro_46 rfl (j := 18) (by decide) g169_4 kf_X12_175 dX12_splits_224 ?_
                          replace hF := hF.trans (congrArg (dv_k f_X12_splits_7b) (congrArg (dv_k f_X12_splits_169b) (dv_bn (dv_getI h0 ro_46 (j := 18) rfl g169_4 (by decide)))))
                          have fg58 : mo_f G H169 a0 18 = x18.toInt := mo_fat g169_4
                          refine th_ialdF hC hB.1 hb23 ro_56 rfl (Eq.refl _) (by omega) (by omega) rfl dX12_splits_227 (fun x59 mx59 lx59 ux59 => ?_)
                          replace hF := hF.trans (congrArg (dv_k f_X12_splits_7b) (congrArg (dv_k f_X12_splits_169b) (dv_bn (dv_aldI hB.1 hU hb23 ow_56 (z := x18.toInt) mx59 (by omega)))))
                          have qx59 : x59.toInt = x51.toInt := by rw [show x59 = x51 from Value.int.inj (mx59.symm.trans mx51)]
                          refine lv_imul hx hb dX12_splits_228 ?_
                          refine lv_topi (fun x60 ex60 => ?_)
                          have lx60 := ti_lo x60; have ux60 := ti_hi x60
                          replace hF := hF.trans (congrArg (dv_k f_X12_splits_7b) (congrArg (dv_k f_X12_splits_169b) (dv_bn (dv_mul_e tk_10 (Eq.refl _) ex60))))
                          refine lv_aload_n hx hb dX12_splits_229 rfl (lv_at hl 1 rfl) ?_
                          refine th_getK hC cf_X12 hB.1 h0 ro_46 rfl (j := 11) (by decide) mm37 kf_X12_45 dX12_splits_230 ?_
                          refine lv_iload hx hb dX12_splits_233 (lv_at hl 4 rfl) ?_
                          refine th_baldF hC hB.1 hb12 ro_53 rfl (Eq.refl _) (by omega) (by omega) rfl dX12_splits_235 (fun x61 mx61 lx61 ux61 => ?_)
                          replace hF := hF.trans (congrArg (dv_k f_X12_splits_7b) (congrArg (dv_k f_X12_splits_169b) (dv_bn (dv_aldI hB.1 hU hb12 ow_53 (z := j169_5.toInt) mx61 (by omega)))))
                          refine lv_iadd hx hb dX12_splits_236 ?_
                          refine lv_topi (fun x62 ex62 => ?_)
                          have lx62 := ti_lo x62; have ux62 := ti_hi x62
                          replace hF := hF.trans (congrArg (dv_k f_X12_splits_7b) (congrArg (dv_k f_X12_splits_169b) (dv_bn (dv_add_e (Eq.refl _) (Eq.refl _) ex62))))
                          refine lv_bipush (v := 48) hx hb dX12_splits_237 (by decide) ?_
                          refine lv_isub hx hb dX12_splits_239 ?_
                          refine lv_topi (fun x63 ex63 => ?_)
                          have lx63 := ti_lo x63; have ux63 := ti_hi x63
                          replace hF := hF.trans (congrArg (dv_k f_X12_splits_7b) (congrArg (dv_k f_X12_splits_169b) (dv_bn (dv_sub_e (Eq.refl _) tk_48 ex63))))
                          exact jn240 locs ls x63 hB (lv_sub hl [0, 1, 2, 3, 4] rfl) hF
                        · replace hF := hF.trans (congrArg (dv_k f_X12_splits_7b) (congrArg (dv_k f_X12_splits_169b) (if_neg (Int.not_le.mpr c202))))
                          refine lv_aload_n hx hb dX12_splits_205 rfl (lv_at hl 1 rfl) ?_
                          refine th_getK hC cf_X12 hB.1 h0 ro_46 rfl (j := 16) (by decide) mm39 kf_X12_57 dX12_splits_206 ?_
                          refine lv_aload_n hx hb dX12_splits_209 rfl (lv_at hl 1 rfl) ?_
                          refine th_getK hC cf_X12 hB.1 h0 ro_46 rfl (j := 18) (by decide) g169_4 kf_X12_175 dX12_splits_210 ?_
                          replace hF := hF.trans (congrArg (dv_k f_X12_splits_7b) (congrArg (dv_k f_X12_splits_169b) (dv_bn (dv_getI h0 ro_46 (j := 18) rfl g169_4 (by decide)))))
                          have fg64 : mo_f G H169 a0 18 = x18.toInt := mo_fat g169_4
                          refine th_ialdF hC hB.1 hb23 ro_56 rfl (Eq.refl _) (by omega) (by omega) rfl dX12_splits_213 (fun x65 mx65 lx65 ux65 => ?_)
                          replace hF := hF.trans (congrArg (dv_k f_X12_splits_7b) (congrArg (dv_k f_X12_splits_169b) (dv_bn (dv_aldI hB.1 hU hb23 ow_56 (z := x18.toInt) mx65 (by omega)))))
                          have qx65 : x65.toInt = x51.toInt := by rw [show x65 = x51 from Value.int.inj (mx65.symm.trans mx51)]
                          refine lv_goto (tgt := 240) hx hb dX12_splits_214 (by decide) ?_
                          exact jn240 locs ls x65 hB (lv_sub hl [0, 1, 2, 3, 4] rfl) hF
                exact lp169 ((2147483648 : Int) - (j7_2.toInt)).toNat H165 locs ls j7_2 hB hR (lv_sub hl [1, 2, 3, 5, 0] rfl) hF (by omega) (by omega) (by omega) (by omega) mm34 (by omega)
              refine tr_if_eq (tgt := 145) hx hb dX12_splits_132 (by decide) (Eq.refl _) (fun c132 => ?_) (fun c132 => ?_)
              · replace hF := hF.trans (congrArg (dv_k f_X12_splits_7b) (if_pos c132))
                refine lv_iload_n hx hb dX12_splits_145 rfl (lv_at hl 0 rfl) ?_
                refine th_call (th_runS (As := [.int x13]) (rest := [.int x18, .ref b29]) hC mf_X12_isDigit km_X12_181 st_X12_isDigit (c_X12_isDigit l G Γ H119 hB.1 hU x13) rfl rfl ⟨Nat.le_of_ble_eq_true rfl, Nat.le_of_ble_eq_true rfl⟩ rfl hl.1 rfl (Nat.le_of_ble_eq_true rfl) dX12_splits_146 ⟨Nat.le_refl _, Nat.le_refl _⟩) hB.2.1 (fun v146 H146 locs hp hz hS => ?_)
                obtain ⟨x66, rfl, lx66, ux66, q146_0, rfl⟩ := hp
                have hB := th_B_s hB hS
                replace hF := hF.trans (congrArg (dv_k f_X12_splits_7b) (dv_bn2 (q146_0)))
                refine W.eq (g2 := F0 m 149 ls [.int x66, .int x18, .ref b29]) rfl ?_
                refine tr_if_eq (tgt := 157) hx hb dX12_splits_149 (by decide) (Eq.refl _) (fun c149 => ?_) (fun c149 => ?_)
                · replace hF := hF.trans (congrArg (dv_k f_X12_splits_7b) (if_pos c149))
                  refine lv_bipush (v := 100) hx hb dX12_splits_157 (by decide) ?_
                  refine lv_iload_n hx hb dX12_splits_159 rfl (lv_at hl 0 rfl) ?_
                  refine lv_sipush (v := 255) hx hb dX12_splits_160 (by decide) ?_
                  refine lv_iand hx hb dX12_splits_163 ?_
                  refine lv_topi (fun x67 ex67 => ?_)
                  have lx67 := ti_lo x67; have ux67 := ti_hi x67
                  replace hF := hF.trans (congrArg (dv_k f_X12_splits_7b) (dv_bn (dv_and_e (Eq.refl _) tk_255 ex67)))
                  have fx67 := ti_and x13 8 (m := 255) (by decide) (by decide)
                  rw [← ex67] at fx67
                  refine tr_iadd hx hb dX12_splits_164 tk_100 (Eq.refl _) (by omega) (by omega) (fun x68 ex68 => ?_)
                  replace hF := hF.trans (congrArg (dv_k f_X12_splits_7b) (dv_bn (ex68.symm)))
                  exact jn165 locs ls x68 hB (lv_sub hl [0, 1, 2, 3, 4] rfl) hF
                · replace hF := hF.trans (congrArg (dv_k f_X12_splits_7b) (if_neg c149))
                  refine lv_bipush (v := 50) hx hb dX12_splits_152 (by decide) ?_
                  refine lv_goto (tgt := 165) hx hb dX12_splits_154 (by decide) ?_
                  exact jn165 locs ls 50 hB (lv_sub hl [0, 1, 2, 3, 4] rfl) (by rw [tk_50]; exact hF)
              · replace hF := hF.trans (congrArg (dv_k f_X12_splits_7b) (if_neg c132))
                refine lv_aload_n hx hb dX12_splits_135 rfl (lv_at hl 1 rfl) ?_
                refine lv_iload_n hx hb dX12_splits_136 rfl (lv_at hl 3 rfl) ?_
                refine lv_iload hx hb dX12_splits_137 (lv_at hl 4 rfl) ?_
                refine th_call (th_runV (As := [.int j7_2, .int j100_4]) (rest := [.int x18, .ref b29]) hC mf_X12_wordOf km_X12_184 im_X12_wordOf se_X12_wordOf (c_X12_wordOf l G Γ H119 hB.1 hU a0 h0 j7_2 (by omega) (by omega) j100_4 (by omega) (by omega)) rfl rfl ⟨Nat.le_of_ble_eq_true rfl, Nat.le_of_ble_eq_true rfl⟩ hB.1 h0 ro_46 rfl rfl hl.1 rfl (Nat.le_of_ble_eq_true rfl) dX12_splits_139 ⟨Nat.le_refl _, Nat.le_refl _⟩) hB.2.1 (fun v139 H139 locs hp hz hS => ?_)
                obtain ⟨x69, rfl, q139_0, rfl⟩ := hp
                have hB := th_B_s hB hS
                replace hF := hF.trans (congrArg (dv_k f_X12_splits_7b) (dv_bn2 (q139_0)))
                refine W.eq (g2 := F0 m 142 ls [.int x69, .int x18, .ref b29]) rfl ?_
                refine lv_goto (tgt := 165) hx hb dX12_splits_142 (by decide) ?_
                exact jn165 locs ls x69 hB (lv_sub hl [0, 1, 2, 3, 4] rfl) hF
            refine tr_if_eq (tgt := 100) hx hb dX12_splits_72 (by decide) (Eq.refl _) (fun c72 => ?_) (fun c72 => ?_)
            · replace hF := hF.trans (congrArg (dv_k f_X12_splits_7b) (if_pos c72))
              exact jn100 locs ls j68_4 hB (lv_sub hl [0, 1, 2, 3, 4] rfl) hF (by omega) (by omega) (by omega) (by omega)
            · replace hF := hF.trans (congrArg (dv_k f_X12_splits_7b) (if_neg c72))
              have lp75 : ∀ (n75 : Nat) (locs : List Loc) (ls : Array Slot) (j75_4 : Int32), th_B G Γ Γ [(46, 18), (57, 0), (56, 0), (55, 0)] H0 H7 locs → lv_has ls 6 [(3, .int x13), (0, .ref a0), (1, .int p1), (2, .int j7_2), (4, .int j75_4)] → F = dv_k f_X12_splits_7b (dv_lp f_X12_splits_75b (dv G Γ H7, x13.toInt, (a0 : Int), p1.toInt, j7_2.toInt, j75_4.toInt)) → 1 ≤ j75_4.toInt → j75_4.toInt ≤ 400 → j7_2.toInt + 1 ≤ j75_4.toInt → j75_4.toInt ≤ p1.toInt → (2147483648 : Int) - j75_4.toInt ≤ (n75 : Int) → W p l e ({ frames := 1, cells := 0, slots := 0, locals := 27 } : Room) s m ([.ref a0, .int p1] : List Value).toArray below meth c H7 locs 0 0 (MQ below (th_Q (fun (v : Option Value) (H1 : Heap) => v = none ∧ th_I G Γ H1 ∧ th_F G Γ [(46, 18), (57, 0), (56, 0), (55, 0)] H0 H1 ∧ th_RC G Γ H1 ∧ (mo_v G H1 a0 15 (mo_f G H1 a0 18) = 0) ∧ (f_X12_splits (dv G Γ H0) (a0 : Int) p1.toInt = (dv G Γ H1, 0))) G) ([.ref a0, .int p1] : List Value).toArray s 0 0 (fun q => G.2.2 ≤ q)) (F0 m 75 ls []) := by
                intro n75
                induction n75 with
                | zero => intro locs ls j75_4 hB hl hF g75_0 g75_1 g75_2 g75_3 hm75; exact absurd hm75 (by have := ti_hi j75_4; omega)
                | succ n75 ih75 =>
                  intro locs ls j75_4 hB hl hF g75_0 g75_1 g75_2 g75_3 hm75
                  have lj75_4 := ti_lo j75_4; have uj75_4 := ti_hi j75_4
                  have hm75 : (2147483648 : Int) - j75_4.toInt ≤ (n75 : Int) + 1 := by omega
                  replace hF := hF.trans (congrArg (dv_k f_X12_splits_7b) (dv_lp_eq))
                  replace hF := hF.trans (congrArg (dv_k f_X12_splits_7b) (congrArg (dv_k f_X12_splits_75b) (f_X12_splits_75c.eq_1 (dv G Γ H7) (x13.toInt) ((a0 : Int)) (p1.toInt) (j7_2.toInt) (j75_4.toInt))))
                  refine lv_iload hx hb dX12_splits_75 (lv_at hl 4 rfl) ?_
                  refine lv_iload_n hx hb dX12_splits_77 rfl (lv_at hl 2 rfl) ?_
                  refine tr_icmp_ge (tgt := 100) hx hb dX12_splits_78 (by decide) (Eq.refl _) (Eq.refl _) (fun c78 => ?_) (fun c78 => ?_)
                  · replace hF := hF.trans (congrArg (dv_k f_X12_splits_7b) (congrArg (dv_k f_X12_splits_75b) (if_pos c78)))
                    replace hF := hF.trans (congrArg (dv_k f_X12_splits_7b) (dv_kr))
                    exact jn100 locs ls j75_4 hB (lv_sub hl [0, 1, 2, 3, 4] rfl) hF (by omega) (by omega) (by omega) (by omega)
                  · replace hF := hF.trans (congrArg (dv_k f_X12_splits_7b) (congrArg (dv_k f_X12_splits_75b) (if_neg (Int.not_le.mpr c78))))
                    refine lv_aload_n hx hb dX12_splits_81 rfl (lv_at hl 1 rfl) ?_
                    refine th_getK hC cf_X12 hB.1 h0 ro_46 rfl (j := 11) (by decide) mb12 kf_X12_45 dX12_splits_82 ?_
                    refine lv_iload hx hb dX12_splits_85 (lv_at hl 4 rfl) ?_
                    refine th_baldF hC hB.1 hb12 ro_53 rfl (Eq.refl _) (by omega) (by omega) rfl dX12_splits_87 (fun x70 mx70 lx70 ux70 => ?_)
                    replace hF := hF.trans (congrArg (dv_k f_X12_splits_7b) (congrArg (dv_k f_X12_splits_75b) (dv_bn (dv_aldI hB.1 hU hb12 ow_53 (z := j75_4.toInt) mx70 (by omega)))))
                    refine th_call (th_runS (As := [.int x70]) (rest := []) hC mf_X12_isDigit km_X12_181 st_X12_isDigit (c_X12_isDigit l G Γ H7 hB.1 hU x70) rfl rfl ⟨Nat.le_of_ble_eq_true rfl, Nat.le_of_ble_eq_true rfl⟩ rfl hl.1 rfl (Nat.le_of_ble_eq_true rfl) dX12_splits_88 ⟨Nat.le_refl _, Nat.le_refl _⟩) hB.2.1 (fun v88 H88 locs hp hz hS => ?_)
                    obtain ⟨x71, rfl, lx71, ux71, q88_0, rfl⟩ := hp
                    have hB := th_B_s hB hS
                    replace hF := hF.trans (congrArg (dv_k f_X12_splits_7b) (congrArg (dv_k f_X12_splits_75b) (dv_bn2 (q88_0))))
                    refine W.eq (g2 := F0 m 91 ls [.int x71]) rfl ?_
                    refine tr_if_eq (tgt := 100) hx hb dX12_splits_91 (by decide) (Eq.refl _) (fun c91 => ?_) (fun c91 => ?_)
                    · replace hF := hF.trans (congrArg (dv_k f_X12_splits_7b) (congrArg (dv_k f_X12_splits_75b) (if_pos c91)))
                      replace hF := hF.trans (congrArg (dv_k f_X12_splits_7b) (dv_kr))
                      exact jn100 locs ls j75_4 hB (lv_sub hl [0, 1, 2, 3, 4] rfl) hF (by omega) (by omega) (by omega) (by omega)
                    · replace hF := hF.trans (congrArg (dv_k f_X12_splits_7b) (congrArg (dv_k f_X12_splits_75b) (if_neg c91)))
                      refine tr_iinc (fun x72 => [(4, .int x72), (3, .int x13), (0, .ref a0), (1, .int p1), (2, .int j7_2)]) hx hb dX12_splits_94 hl (k := 4) rfl (Eq.refl _) tk_1 (by omega) (by omega) (by decide) (fun _ => rfl) (fun x72 ls ex72 hl => ?_)
                      replace hF := hF.trans (congrArg (dv_k f_X12_splits_7b) (congrArg (dv_k f_X12_splits_75b) (dv_bn (ex72.symm))))
                      refine lv_goto (tgt := 75) hx hb dX12_splits_97 (by decide) ?_
                      replace hF := hF.trans (congrArg (dv_k f_X12_splits_7b) (dv_kl))
                      exact ih75 locs ls x72 hB (lv_sub hl [1, 2, 3, 4, 0] rfl) hF (by omega) (by omega) (by omega) (by omega) (by omega)
              exact lp75 ((2147483648 : Int) - (j68_4.toInt)).toNat locs ls j68_4 hB (lv_sub hl [0, 1, 2, 3, 4] rfl) hF (by omega) (by omega) (by omega) (by omega) (by omega)
          refine tr_if_eq (tgt := 68) hx hb dX12_splits_40 (by decide) (Eq.refl _) (fun c40 => ?_) (fun c40 => ?_)
          · replace hF := hF.trans (congrArg (dv_k f_X12_splits_7b) (if_pos c40))
            exact jn68 locs ls x14 hB (lv_sub hl [1, 2, 3, 4, 0] rfl) hF (by omega) (by omega) (by omega) (by omega)
          · replace hF := hF.trans (congrArg (dv_k f_X12_splits_7b) (if_neg c40))
            have lp43 : ∀ (n43 : Nat) (locs : List Loc) (ls : Array Slot) (j43_4 : Int32), th_B G Γ Γ [(46, 18), (57, 0), (56, 0), (55, 0)] H0 H7 locs → lv_has ls 6 [(3, .int x13), (0, .ref a0), (1, .int p1), (2, .int j7_2), (4, .int j43_4)] → F = dv_k f_X12_splits_7b (dv_lp f_X12_splits_43b (dv G Γ H7, x13.toInt, (a0 : Int), p1.toInt, j7_2.toInt, j43_4.toInt)) → 1 ≤ j43_4.toInt → j43_4.toInt ≤ 400 → j7_2.toInt + 1 ≤ j43_4.toInt → j43_4.toInt ≤ p1.toInt → (2147483648 : Int) - j43_4.toInt ≤ (n43 : Int) → W p l e ({ frames := 1, cells := 0, slots := 0, locals := 27 } : Room) s m ([.ref a0, .int p1] : List Value).toArray below meth c H7 locs 0 0 (MQ below (th_Q (fun (v : Option Value) (H1 : Heap) => v = none ∧ th_I G Γ H1 ∧ th_F G Γ [(46, 18), (57, 0), (56, 0), (55, 0)] H0 H1 ∧ th_RC G Γ H1 ∧ (mo_v G H1 a0 15 (mo_f G H1 a0 18) = 0) ∧ (f_X12_splits (dv G Γ H0) (a0 : Int) p1.toInt = (dv G Γ H1, 0))) G) ([.ref a0, .int p1] : List Value).toArray s 0 0 (fun q => G.2.2 ≤ q)) (F0 m 43 ls []) := by
              intro n43
              induction n43 with
              | zero => intro locs ls j43_4 hB hl hF g43_0 g43_1 g43_2 g43_3 hm43; exact absurd hm43 (by have := ti_hi j43_4; omega)
              | succ n43 ih43 =>
                intro locs ls j43_4 hB hl hF g43_0 g43_1 g43_2 g43_3 hm43
                have lj43_4 := ti_lo j43_4; have uj43_4 := ti_hi j43_4
                have hm43 : (2147483648 : Int) - j43_4.toInt ≤ (n43 : Int) + 1 := by omega
                replace hF := hF.trans (congrArg (dv_k f_X12_splits_7b) (dv_lp_eq))
                replace hF := hF.trans (congrArg (dv_k f_X12_splits_7b) (congrArg (dv_k f_X12_splits_43b) (f_X12_splits_43c.eq_1 (dv G Γ H7) (x13.toInt) ((a0 : Int)) (p1.toInt) (j7_2.toInt) (j43_4.toInt))))
                refine lv_iload hx hb dX12_splits_43 (lv_at hl 4 rfl) ?_
                refine lv_iload_n hx hb dX12_splits_45 rfl (lv_at hl 2 rfl) ?_
                refine tr_icmp_ge (tgt := 68) hx hb dX12_splits_46 (by decide) (Eq.refl _) (Eq.refl _) (fun c46 => ?_) (fun c46 => ?_)
                · replace hF := hF.trans (congrArg (dv_k f_X12_splits_7b) (congrArg (dv_k f_X12_splits_43b) (if_pos c46)))
                  replace hF := hF.trans (congrArg (dv_k f_X12_splits_7b) (dv_kr))
                  exact jn68 locs ls j43_4 hB (lv_sub hl [0, 1, 2, 3, 4] rfl) hF (by omega) (by omega) (by omega) (by omega)
                · replace hF := hF.trans (congrArg (dv_k f_X12_splits_7b) (congrArg (dv_k f_X12_splits_43b) (if_neg (Int.not_le.mpr c46))))
                  refine lv_aload_n hx hb dX12_splits_49 rfl (lv_at hl 1 rfl) ?_
                  refine th_getK hC cf_X12 hB.1 h0 ro_46 rfl (j := 11) (by decide) mb12 kf_X12_45 dX12_splits_50 ?_
                  refine lv_iload hx hb dX12_splits_53 (lv_at hl 4 rfl) ?_
                  refine th_baldF hC hB.1 hb12 ro_53 rfl (Eq.refl _) (by omega) (by omega) rfl dX12_splits_55 (fun x73 mx73 lx73 ux73 => ?_)
                  replace hF := hF.trans (congrArg (dv_k f_X12_splits_7b) (congrArg (dv_k f_X12_splits_43b) (dv_bn (dv_aldI hB.1 hU hb12 ow_53 (z := j43_4.toInt) mx73 (by omega)))))
                  refine th_call (th_runS (As := [.int x73]) (rest := []) hC mf_X12_isSmall km_X12_178 st_X12_isSmall (c_X12_isSmall l G Γ H7 hB.1 hU x73) rfl rfl ⟨Nat.le_of_ble_eq_true rfl, Nat.le_of_ble_eq_true rfl⟩ rfl hl.1 rfl (Nat.le_of_ble_eq_true rfl) dX12_splits_56 ⟨Nat.le_refl _, Nat.le_refl _⟩) hB.2.1 (fun v56 H56 locs hp hz hS => ?_)
                  obtain ⟨x74, rfl, lx74, ux74, q56_0, rfl⟩ := hp
                  have hB := th_B_s hB hS
                  replace hF := hF.trans (congrArg (dv_k f_X12_splits_7b) (congrArg (dv_k f_X12_splits_43b) (dv_bn2 (q56_0))))
                  refine W.eq (g2 := F0 m 59 ls [.int x74]) rfl ?_
                  refine tr_if_eq (tgt := 68) hx hb dX12_splits_59 (by decide) (Eq.refl _) (fun c59 => ?_) (fun c59 => ?_)
                  · replace hF := hF.trans (congrArg (dv_k f_X12_splits_7b) (congrArg (dv_k f_X12_splits_43b) (if_pos c59)))
                    replace hF := hF.trans (congrArg (dv_k f_X12_splits_7b) (dv_kr))
                    exact jn68 locs ls j43_4 hB (lv_sub hl [0, 1, 2, 3, 4] rfl) hF (by omega) (by omega) (by omega) (by omega)
                  · replace hF := hF.trans (congrArg (dv_k f_X12_splits_7b) (congrArg (dv_k f_X12_splits_43b) (if_neg c59)))
                    refine tr_iinc (fun x75 => [(4, .int x75), (3, .int x13), (0, .ref a0), (1, .int p1), (2, .int j7_2)]) hx hb dX12_splits_62 hl (k := 4) rfl (Eq.refl _) tk_1 (by omega) (by omega) (by decide) (fun _ => rfl) (fun x75 ls ex75 hl => ?_)
                    replace hF := hF.trans (congrArg (dv_k f_X12_splits_7b) (congrArg (dv_k f_X12_splits_43b) (dv_bn (ex75.symm))))
                    refine lv_goto (tgt := 43) hx hb dX12_splits_65 (by decide) ?_
                    replace hF := hF.trans (congrArg (dv_k f_X12_splits_7b) (dv_kl))
                    exact ih43 locs ls x75 hB (lv_sub hl [1, 2, 3, 4, 0] rfl) hF (by omega) (by omega) (by omega) (by omega) (by omega)
            exact lp43 ((2147483648 : Int) - (x14.toInt)).toNat locs ls x14 hB (lv_sub hl [1, 2, 3, 4, 0] rfl) hF (by omega) (by omega) (by omega) (by omega) (by omega)
        · replace hF := hF.trans (congrArg (dv_k f_X12_splits_7b) (if_neg (not_not_intro c22)))
          refine tr_iinc (fun x76 => [(2, .int x76), (3, .int x13), (0, .ref a0), (1, .int p1)]) hx hb dX12_splits_25 hl (k := 3) rfl (Eq.refl _) tk_1 (by omega) (by omega) (by decide) (fun _ => rfl) (fun x76 ls ex76 hl => ?_)
          replace hF := hF.trans (congrArg (dv_k f_X12_splits_7b) (dv_bn (ex76.symm)))
          refine lv_goto (tgt := 7) hx hb dX12_splits_28 (by decide) ?_
          replace hF := hF.trans (dv_kl)
          exact ih7 H7 locs ls x76 hB hR (lv_sub hl [2, 3, 0] rfl) hF (by omega) (by omega) (by omega) (by omega) (by omega)
  exact lp7 ((401 : Int) - (0)).toNat H2 locs ls 0 hB hR (lv_sub hl [1, 2, 0] rfl) (by rw [tk_0]; exact hF) (by decide) (by decide) (by have w0 := tk_0; omega) (by have w0 := tk_0; omega) (by have w0 := tk_0; omega)

set_option maxHeartbeats 4000000 in
set_option maxRecDepth 100000 in
theorem c_X12_reads (l : Launch) (G : th_G) (Γ : th_Ga) (H0 : Heap) (hI : th_I G Γ H0) (hR : th_RC G Γ H0) (hU : dv_U Γ) (a0 : Nat) (h0 : Γ a0 = (46, 0)) (o : Int) (k1 : mo_wd G H0 a0 o) : Met l yX12_reads (.code yX12_reads cX12_reads 2 (some FieldType.boolean) :: th_tb) ({ frames := 73, cells := 0, slots := 0, locals := 2205 } : Room) (th_P [.ref a0] G H0) (th_Q (fun (v : Option Value) (H1 : Heap) => ∃ r : Int32, v = some (.int r) ∧ 0 ≤ r.toInt ∧ r.toInt ≤ 1 ∧ th_I G Γ H1 ∧ th_F G Γ [(46, 19), (46, 20), (46, 21), (46, 18), (57, 0), (56, 0), (55, 0), (46, 13), (46, 14)] H0 H1 ∧ th_RC G Γ H1 ∧ (r.toInt = 1 → mo_text o (mo_cr G H1 a0) (mo_f G H1 a0 18)) ∧ (f_X12_reads (dv G Γ H0) (a0 : Int) = (dv G Γ H1, r.toInt))) G) 0 0 (fun q => G.2.2 ≤ q) := by
  refine th_met RX12 (by decide) rfl (Nat.le_of_ble_eq_true rfl) ?_
  intro p e s m below meth c hC hH hr hlocks hnm ls hl
  have hx := hC.1
  have hb := hC.2.1
  have hB : th_B G Γ Γ [(46, 19), (46, 20), (46, 21), (46, 18), (57, 0), (56, 0), (55, 0), (46, 13), (46, 14)] H0 H0 [] := ⟨hI, va_S.rf, th_F_rf⟩
  have hl : lv_has ls 2 [(0, .ref a0)] := hl
  obtain ⟨F, hF0⟩ : ∃ F, F = f_X12_reads (dv G Γ H0) ((a0 : Int)) := ⟨_, rfl⟩
  have hF := hF0.trans (f_X12_reads.eq_1 (dv G Γ H0) ((a0 : Int)))
  refine lv_aload_n hx hb dX12_reads_0 rfl (lv_at hl 0 rfl) ?_
  refine lv_aload_n hx hb dX12_reads_1 rfl (lv_at hl 0 rfl) ?_
  refine th_getI (j := 13) hC cf_X12 hB.1 h0 ro_46 rfl rfl kf_X12_169 dX12_reads_2 (fun x1 mx1 lx1 ux1 => ?_)
  replace hF := hF.trans (dv_bn (dv_getI h0 ro_46 (j := 13) rfl mx1 (by decide)))
  refine th_call (th_runV (As := [.int x1]) (rest := []) hC mf_X12_splits km_X12_259 im_X12_splits se_X12_splits (c_X12_splits l G Γ H0 hB.1 hR hU a0 h0 x1 (by omega) (by omega)) rfl rfl ⟨Nat.le_of_ble_eq_true rfl, Nat.le_of_ble_eq_true rfl⟩ hB.1 h0 ro_46 rfl rfl hl.1 rfl (Nat.le_of_ble_eq_true rfl) dX12_reads_5 ⟨Nat.le_refl _, Nat.le_refl _⟩) hB.2.1 (fun v5 H5 locs hp hz hS => ?_)
  obtain ⟨rfl, hI1, hf, hR, z5_0, z5_1⟩ := hp
  have hB := th_B_c hB hI1 hS hf (by decide)
  have fv_H5_19 : mo_f G H5 a0 19 = mo_f G H0 a0 19 := mo_f_F hf h0 (by decide) (by decide)
  have fv_H5_21 : mo_f G H5 a0 21 = mo_f G H0 a0 21 := mo_f_F hf h0 (by decide) (by decide)
  replace hF := hF.trans (dv_bn2 (z5_1))
  refine W.eq (g2 := F0 m 8 ls []) rfl ?_
  refine lv_aload_n hx hb dX12_reads_8 rfl (lv_at hl 0 rfl) ?_
  refine lv_iconst (v := 0) hx hb dX12_reads_9 (by decide) ?_
  refine th_put hC cf_X12 hB h0 (Or.inl h0) ro_46 rfl (j := 13) rfl (th_sI (by decide) (by decide)) (by decide) rfl rfl rfl kf_X12_169 dX12_reads_10 (fun H10 locs hB hf hst10 => ?_)
  have hR := th_RC_F hB.1 hR hf (th_T_s h0 ro_46 hst10) (by decide)
  have fv_H10_18 : mo_f G H10 a0 18 = mo_f G H5 a0 18 := mo_f_F hf h0 (by decide) (by decide)
  have fv_H10_19 : mo_f G H10 a0 19 = mo_f G H5 a0 19 := mo_f_F hf h0 (by decide) (by decide)
  have fv_H10_21 : mo_f G H10 a0 21 = mo_f G H5 a0 21 := mo_f_F hf h0 (by decide) (by decide)
  have vv_H10_15 : mo_v G H10 a0 15 = mo_v G H5 a0 15 := mo_v_F (r := 55) hB.1 hf h0 rfl ro_55 (by decide) (by decide)
  replace hF := hF.trans (dv_bn (dv_putI hB.1 h0 ro_46 (j := 13) rfl (th_apart hC cf_X12) hst10 tk_0 (by decide)))
  refine lv_aload_n hx hb dX12_reads_13 rfl (lv_at hl 0 rfl) ?_
  refine lv_iconst (v := 0) hx hb dX12_reads_14 (by decide) ?_
  refine th_put hC cf_X12 hB h0 (Or.inl h0) ro_46 rfl (j := 19) rfl (th_sI (by decide) (by decide)) (by decide) rfl rfl rfl kf_X12_196 dX12_reads_15 (fun H15 locs hB hf hst15 => ?_)
  have hR := th_RC_F hB.1 hR hf (th_T_s h0 ro_46 hst15) (by decide)
  have fv_H15_18 : mo_f G H15 a0 18 = mo_f G H10 a0 18 := mo_f_F hf h0 (by decide) (by decide)
  have fv_H15_21 : mo_f G H15 a0 21 = mo_f G H10 a0 21 := mo_f_F hf h0 (by decide) (by decide)
  have vv_H15_15 : mo_v G H15 a0 15 = mo_v G H10 a0 15 := mo_v_F (r := 55) hB.1 hf h0 rfl ro_55 (by decide) (by decide)
  replace hF := hF.trans (dv_bn (dv_putI hB.1 h0 ro_46 (j := 19) rfl (th_apart hC cf_X12) hst15 tk_0 (by decide)))
  have fp15 : mo_f G H15 a0 19 = 0 := (mo_f_St hst15).trans tk_0
  have mm2 := hst15.2.1
  refine lv_aload_n hx hb dX12_reads_18 rfl (lv_at hl 0 rfl) ?_
  refine lv_iconst (v := 0) hx hb dX12_reads_19 (by decide) ?_
  refine th_put hC cf_X12 hB h0 (Or.inl h0) ro_46 rfl (j := 20) rfl th_sIa (by decide) rfl rfl rfl kf_X12_205 dX12_reads_20 (fun H20 locs hB hf hst20 => ?_)
  have mm3 := (th_F_o hf h0 ro_46 (j := 19) (by decide) (by decide)).trans mm2
  have hR := th_RC_F hB.1 hR hf (th_T_s h0 ro_46 hst20) (by decide)
  have fv_H20_18 : mo_f G H20 a0 18 = mo_f G H15 a0 18 := mo_f_F hf h0 (by decide) (by decide)
  have fv_H20_19 : mo_f G H20 a0 19 = mo_f G H15 a0 19 := mo_f_F hf h0 (by decide) (by decide)
  have fv_H20_21 : mo_f G H20 a0 21 = mo_f G H15 a0 21 := mo_f_F hf h0 (by decide) (by decide)
  have vv_H20_15 : mo_v G H20 a0 15 = mo_v G H15 a0 15 := mo_v_F (r := 55) hB.1 hf h0 rfl ro_55 (by decide) (by decide)
  replace hF := hF.trans (dv_bn (dv_putI hB.1 h0 ro_46 (j := 20) rfl (th_apart hC cf_X12) hst20 tk_0 (by decide)))
  refine lv_aload_n hx hb dX12_reads_23 rfl (lv_at hl 0 rfl) ?_
  refine lv_iconst (v := (-1)) hx hb dX12_reads_24 (by decide) ?_
  refine th_put hC cf_X12 hB h0 (Or.inl h0) ro_46 rfl (j := 21) rfl (th_sI (by decide) (by decide)) (by decide) rfl rfl rfl kf_X12_189 dX12_reads_25 (fun H25 locs hB hf hst25 => ?_)
  have mm4 := (th_F_o hf h0 ro_46 (j := 19) (by decide) (by decide)).trans mm3
  have hR := th_RC_F hB.1 hR hf (th_T_s h0 ro_46 hst25) (by decide)
  have fv_H25_18 : mo_f G H25 a0 18 = mo_f G H20 a0 18 := mo_f_F hf h0 (by decide) (by decide)
  have fv_H25_19 : mo_f G H25 a0 19 = mo_f G H20 a0 19 := mo_f_F hf h0 (by decide) (by decide)
  have vv_H25_15 : mo_v G H25 a0 15 = mo_v G H20 a0 15 := mo_v_F (r := 55) hB.1 hf h0 rfl ro_55 (by decide) (by decide)
  replace hF := hF.trans (dv_bn (dv_putI hB.1 h0 ro_46 (j := 21) rfl (th_apart hC cf_X12) hst25 tk_m1 (by decide)))
  have fp25 : mo_f G H25 a0 21 = (-1) := (mo_f_St hst25).trans tk_m1
  have mm5 := hst25.2.1
  obtain ⟨cv, ecv⟩ : ∃ cv, mo_cr G H25 a0 = cv := ⟨_, rfl⟩
  have cr_H25 : mo_rd G H25 a0 cv := ⟨ecv, by rw [vv_H25_15, vv_H20_15, vv_H15_15, vv_H10_15, show mo_f G H25 a0 18 = mo_f G H5 a0 18 by omega]; exact z5_0⟩
  have t18 := mo_f_rg hB.1 h0 (j := 18) rfl
  obtain ⟨n0, en0⟩ : ∃ n : Int, n = mo_f G H25 a0 18 := ⟨_, rfl⟩
  refine lv_aload_n hx hb dX12_reads_28 rfl (lv_at hl 0 rfl) ?_
  refine th_call (th_runV (As := []) (rest := []) hC mf_X12_readOne km_X12_262 im_X12_readOne se_X12_readOne (c_X12_readOne l G Γ H25 hB.1 hR hU a0 h0 o cv 0 cr_H25 ⟨by omega, by omega, by omega⟩ (mo_wd_F hB.2.2 h0 (by decide) k1)) rfl rfl ⟨Nat.le_of_ble_eq_true rfl, Nat.le_of_ble_eq_true rfl⟩ hB.1 h0 ro_46 rfl rfl hl.1 rfl (Nat.le_of_ble_eq_true rfl) dX12_reads_29 ⟨Nat.le_refl _, Nat.le_refl _⟩) hB.2.1 (fun v29 H29 locs hp hz hS => ?_)
  obtain ⟨rfl, hI1, hf, hR, z29_0, z29_1, z29_2⟩ := hp
  have hB := th_B_c hB hI1 hS hf (by decide)
  have fv_H29_18 : mo_f G H29 a0 18 = mo_f G H25 a0 18 := mo_f_F hf h0 (by decide) (by decide)
  have vv_H29_15 : mo_v G H29 a0 15 = mo_v G H25 a0 15 := mo_v_F (r := 55) hB.1 hf h0 rfl ro_55 (by decide) (by decide)
  replace hF := hF.trans (dv_bn2 (z29_2))
  refine W.eq (g2 := F0 m 32 ls []) rfl ?_
  have cr_H29 : mo_rd G H29 a0 cv := mo_rd_F hB.1 hf h0 (by decide) cr_H25
  refine lv_iconst (v := 1) hx hb dX12_reads_32 (by decide) ?_
  refine lv_istore_n (lv' := [(1, .int 1), (0, .ref a0)]) hx hb dX12_reads_33 rfl hl (by decide) rfl (fun ls hl => ?_)
  have lp34 : ∀ (n34 : Nat) (H34 : Heap) (locs : List Loc) (ls : Array Slot) (j34_1 : Int32), th_B G Γ Γ [(46, 19), (46, 20), (46, 21), (46, 18), (57, 0), (56, 0), (55, 0), (46, 13), (46, 14)] H0 H34 locs → th_RC G Γ H34 → lv_has ls 2 [(0, .ref a0), (1, .int j34_1)] → F = dv_lp f_X12_reads_34b (dv G Γ H34, (a0 : Int), j34_1.toInt) → mo_rd G H34 a0 cv → (∃ m : Int, mo_f G H34 a0 19 = m ∧ 0 ≤ m ∧ m ≤ n0 ∧ (mo_f G H34 a0 21 = -1 → mo_pre cv (mo_clause o cv) (mo_is 159) 0 m)) → mo_f G H34 a0 18 = n0 → n0 - mo_f G H34 a0 19 + 1 ≤ (n34 : Int) → W p l e ({ frames := 73, cells := 0, slots := 0, locals := 2205 } : Room) s m ([.ref a0] : List Value).toArray below meth c H34 locs 0 0 (MQ below (th_Q (fun (v : Option Value) (H1 : Heap) => ∃ r : Int32, v = some (.int r) ∧ 0 ≤ r.toInt ∧ r.toInt ≤ 1 ∧ th_I G Γ H1 ∧ th_F G Γ [(46, 19), (46, 20), (46, 21), (46, 18), (57, 0), (56, 0), (55, 0), (46, 13), (46, 14)] H0 H1 ∧ th_RC G Γ H1 ∧ (r.toInt = 1 → mo_text o (mo_cr G H1 a0) (mo_f G H1 a0 18)) ∧ (f_X12_reads (dv G Γ H0) (a0 : Int) = (dv G Γ H1, r.toInt))) G) ([.ref a0] : List Value).toArray s 0 0 (fun q => G.2.2 ≤ q)) (F0 m 34 ls []) := by
    intro n34
    induction n34 with
    | zero => intro H34 locs ls j34_1 hB hR hl hF g34_0 g34_1 g34_2 hm34; exact absurd hm34 (by have := mo_lpr g34_1; omega)
    | succ n34 ih34 =>
      intro H34 locs ls j34_1 hB hR hl hF g34_0 g34_1 g34_2 hm34
      have lj34_1 := ti_lo j34_1; have uj34_1 := ti_hi j34_1
      have hm34 : n0 - mo_f G H34 a0 19 + 1 ≤ (n34 : Int) + 1 := by omega
      replace hF := hF.trans (dv_lp_eq)
      replace hF := hF.trans (congrArg (dv_k f_X12_reads_34b) (f_X12_reads_34c.eq_1 (dv G Γ H34) ((a0 : Int)) (j34_1.toInt)))
      refine lv_aload_n hx hb dX12_reads_34 rfl (lv_at hl 0 rfl) ?_
      have cr_H34 := g34_0
      obtain ⟨m5, a5, b5, c5, e5⟩ := g34_1
      have n18 := g34_2
      refine lv_bipush (v := 59) hx hb dX12_reads_35 (by decide) ?_
      refine th_call (th_runS (As := [.int 59]) (rest := [.ref a0]) hC mf_X12_sign km_X12_240 st_X12_sign (c_X12_sign l G Γ H34 hB.1 hU 59 (by decide) (by decide)) rfl rfl ⟨Nat.le_of_ble_eq_true rfl, Nat.le_of_ble_eq_true rfl⟩ rfl hl.1 rfl (Nat.le_of_ble_eq_true rfl) dX12_reads_37 ⟨Nat.le_refl _, Nat.le_refl _⟩) hB.2.1 (fun v37 H37 locs hp hz hS => ?_)
      obtain ⟨x6, rfl, lx6, ux6, q37_0, q37_1, rfl⟩ := hp
      have hB := th_B_s hB hS
      have w37_0 := tk_59
      have zf37 := q37_1
      rw [tk_59] at zf37
      replace hF := hF.trans (congrArg (dv_k f_X12_reads_34b) (dv_bn2 (zf37)))
      refine W.eq (g2 := F0 m 40 ls [.int x6, .ref a0]) rfl ?_
      refine th_call (th_runV (As := [.int x6]) (rest := []) hC mf_X12_takes0 km_X12_199 im_X12_takes0 se_X12_takes0 (c_X12_takes0 l G Γ H34 hB.1 hR hU a0 h0 x6 (by omega) cv m5 cr_H34 ⟨by omega, by omega, by omega⟩) rfl rfl ⟨Nat.le_of_ble_eq_true rfl, Nat.le_of_ble_eq_true rfl⟩ hB.1 h0 ro_46 rfl rfl hl.1 rfl (Nat.le_of_ble_eq_true rfl) dX12_reads_40 ⟨Nat.le_refl _, Nat.le_refl _⟩) hB.2.1 (fun v40 H40 locs hp hz hS => ?_)
      obtain ⟨x7, rfl, lx7, ux7, hI1, hf, hR, z40_0, z40_1, z40_2, z40_3⟩ := hp
      have hB := th_B_c hB hI1 hS hf (by decide)
      have fv_H40_18 : mo_f G H40 a0 18 = mo_f G H34 a0 18 := mo_f_F hf h0 (by decide) (by decide)
      have fv_H40_21 : mo_f G H40 a0 21 = mo_f G H34 a0 21 := mo_f_F hf h0 (by decide) (by decide)
      have vv_H40_15 : mo_v G H40 a0 15 = mo_v G H34 a0 15 := mo_v_F (r := 55) hB.1 hf h0 rfl ro_55 (by decide) (by decide)
      replace hF := hF.trans (congrArg (dv_k f_X12_reads_34b) (dv_bn2 (z40_3)))
      refine W.eq (g2 := F0 m 43 ls [.int x7]) rfl ?_
      have cr_H40 : mo_rd G H40 a0 cv := mo_rd_F hB.1 hf h0 (by decide) cr_H34
      have tks := tk_59
      refine tr_if_eq (tgt := 73) hx hb dX12_reads_43 (by decide) (Eq.refl _) (fun c43 => ?_) (fun c43 => ?_)
      · specialize z40_1 (by omega); clear z40_0
        replace hF := hF.trans (congrArg (dv_k f_X12_reads_34b) (if_pos c43))
        refine lv_aload_n hx hb dX12_reads_73 rfl (lv_at hl 0 rfl) ?_
        refine th_call (th_runV (As := []) (rest := []) hC mf_X12_fine km_X12_192 im_X12_fine se_X12_fine (c_X12_fine l G Γ H40 hB.1 hU a0 h0) rfl rfl ⟨Nat.le_of_ble_eq_true rfl, Nat.le_of_ble_eq_true rfl⟩ hB.1 h0 ro_46 rfl rfl hl.1 rfl (Nat.le_of_ble_eq_true rfl) dX12_reads_74 ⟨Nat.le_refl _, Nat.le_refl _⟩) hB.2.1 (fun v74 H74 locs hp hz hS => ?_)
        obtain ⟨x8, rfl, lx8, ux8, q74_0, q74_1, q74_2, rfl⟩ := hp
        have hB := th_B_s hB hS
        replace hF := hF.trans (congrArg (dv_k f_X12_reads_34b) (dv_bn2 (q74_2)))
        refine W.eq (g2 := F0 m 77 ls [.int x8]) rfl ?_
        refine tr_if_eq (tgt := 95) hx hb dX12_reads_77 (by decide) (Eq.refl _) (fun c77 => ?_) (fun c77 => ?_)
        · specialize q74_1 (by omega); clear q74_0
          replace hF := hF.trans (congrArg (dv_k f_X12_reads_34b) (if_pos c77))
          refine lv_aload_n hx hb dX12_reads_95 rfl (lv_at hl 0 rfl) ?_
          refine lv_aload_n hx hb dX12_reads_96 rfl (lv_at hl 0 rfl) ?_
          refine th_getI (j := 21) hC cf_X12 hB.1 h0 ro_46 rfl rfl kf_X12_189 dX12_reads_97 (fun x9 mx9 lx9 ux9 => ?_)
          replace hF := hF.trans (congrArg (dv_k f_X12_reads_34b) (dv_bn (dv_getI h0 ro_46 (j := 21) rfl mx9 (by decide))))
          have fg10 : mo_f G H40 a0 21 = x9.toInt := mo_fat mx9
          refine th_put hC cf_X12 hB h0 (Or.inl h0) ro_46 rfl (j := 14) rfl th_sIa (by decide) rfl rfl rfl kf_X12_51 dX12_reads_100 (fun H100 locs hB hf hst100 => ?_)
          have hR := th_RC_F hB.1 hR hf (th_T_s h0 ro_46 hst100) (by decide)
          have fv_H100_18 : mo_f G H100 a0 18 = mo_f G H40 a0 18 := mo_f_F hf h0 (by decide) (by decide)
          have fv_H100_19 : mo_f G H100 a0 19 = mo_f G H40 a0 19 := mo_f_F hf h0 (by decide) (by decide)
          have fv_H100_21 : mo_f G H100 a0 21 = mo_f G H40 a0 21 := mo_f_F hf h0 (by decide) (by decide)
          have vv_H100_15 : mo_v G H100 a0 15 = mo_v G H40 a0 15 := mo_v_F (r := 55) hB.1 hf h0 rfl ro_55 (by decide) (by decide)
          replace hF := hF.trans (congrArg (dv_k f_X12_reads_34b) (dv_bn (dv_putI hB.1 h0 ro_46 (j := 14) rfl (th_apart hC cf_X12) hst100 (Eq.refl _) (by decide))))
          have hf100x := hf
          refine lv_aload_n hx hb dX12_reads_103 rfl (lv_at hl 0 rfl) ?_
          refine th_call (th_runV (As := []) (rest := []) hC mf_X12_fine km_X12_192 im_X12_fine se_X12_fine (c_X12_fine l G Γ H100 hB.1 hU a0 h0) rfl rfl ⟨Nat.le_of_ble_eq_true rfl, Nat.le_of_ble_eq_true rfl⟩ hB.1 h0 ro_46 rfl rfl hl.1 rfl (Nat.le_of_ble_eq_true rfl) dX12_reads_104 ⟨Nat.le_refl _, Nat.le_refl _⟩) hB.2.1 (fun v104 H104 locs hp hz hS => ?_)
          obtain ⟨x11, rfl, lx11, ux11, q104_0, q104_1, q104_2, rfl⟩ := hp
          have hB := th_B_s hB hS
          replace hF := hF.trans (congrArg (dv_k f_X12_reads_34b) (dv_bn2 (q104_2)))
          refine W.eq (g2 := F0 m 107 ls [.int x11]) rfl ?_
          replace hF := hF.trans (dv_kr)
          exact th_iret hC hH hr hlocks (th_nb (by omega) (by omega)) hB.2.1 ⟨_, rfl, by omega, by omega, hB.1, hB.2.2, hR, fun h9 => absurd (q104_0 h9) (by omega), (hF0.symm.trans hF)⟩ dX12_reads_107
        · specialize q74_0 (by omega); clear q74_1
          replace hF := hF.trans (congrArg (dv_k f_X12_reads_34b) (if_neg c77))
          refine lv_aload_n hx hb dX12_reads_80 rfl (lv_at hl 0 rfl) ?_
          refine th_getI (j := 19) hC cf_X12 hB.1 h0 ro_46 rfl rfl kf_X12_196 dX12_reads_81 (fun x12 mx12 lx12 ux12 => ?_)
          replace hF := hF.trans (congrArg (dv_k f_X12_reads_34b) (dv_bn (dv_getI h0 ro_46 (j := 19) rfl mx12 (by decide))))
          have fg13 : mo_f G H40 a0 19 = x12.toInt := mo_fat mx12
          refine lv_aload_n hx hb dX12_reads_84 rfl (lv_at hl 0 rfl) ?_
          refine th_getI (j := 18) hC cf_X12 hB.1 h0 ro_46 rfl rfl kf_X12_175 dX12_reads_85 (fun x14 mx14 lx14 ux14 => ?_)
          replace hF := hF.trans (congrArg (dv_k f_X12_reads_34b) (dv_bn (dv_getI h0 ro_46 (j := 18) rfl mx14 (by decide))))
          have fg15 : mo_f G H40 a0 18 = x14.toInt := mo_fat mx14
          refine tr_icmp_ge (tgt := 95) hx hb dX12_reads_88 (by decide) (Eq.refl _) (Eq.refl _) (fun c88 => ?_) (fun c88 => ?_)
          · replace hF := hF.trans (congrArg (dv_k f_X12_reads_34b) (if_pos c88))
            refine lv_aload_n hx hb dX12_reads_95 rfl (lv_at hl 0 rfl) ?_
            refine lv_aload_n hx hb dX12_reads_96 rfl (lv_at hl 0 rfl) ?_
            refine th_getI (j := 21) hC cf_X12 hB.1 h0 ro_46 rfl rfl kf_X12_189 dX12_reads_97 (fun x16 mx16 lx16 ux16 => ?_)
            replace hF := hF.trans (congrArg (dv_k f_X12_reads_34b) (dv_bn (dv_getI h0 ro_46 (j := 21) rfl mx16 (by decide))))
            have fg17 : mo_f G H40 a0 21 = x16.toInt := mo_fat mx16
            refine th_put hC cf_X12 hB h0 (Or.inl h0) ro_46 rfl (j := 14) rfl th_sIa (by decide) rfl rfl rfl kf_X12_51 dX12_reads_100 (fun H100 locs hB hf hst100 => ?_)
            have hR := th_RC_F hB.1 hR hf (th_T_s h0 ro_46 hst100) (by decide)
            have fv_H100_18 : mo_f G H100 a0 18 = mo_f G H40 a0 18 := mo_f_F hf h0 (by decide) (by decide)
            have fv_H100_19 : mo_f G H100 a0 19 = mo_f G H40 a0 19 := mo_f_F hf h0 (by decide) (by decide)
            have fv_H100_21 : mo_f G H100 a0 21 = mo_f G H40 a0 21 := mo_f_F hf h0 (by decide) (by decide)
            have vv_H100_15 : mo_v G H100 a0 15 = mo_v G H40 a0 15 := mo_v_F (r := 55) hB.1 hf h0 rfl ro_55 (by decide) (by decide)
            replace hF := hF.trans (congrArg (dv_k f_X12_reads_34b) (dv_bn (dv_putI hB.1 h0 ro_46 (j := 14) rfl (th_apart hC cf_X12) hst100 (Eq.refl _) (by decide))))
            have hf100x := hf
            refine lv_aload_n hx hb dX12_reads_103 rfl (lv_at hl 0 rfl) ?_
            refine th_call (th_runV (As := []) (rest := []) hC mf_X12_fine km_X12_192 im_X12_fine se_X12_fine (c_X12_fine l G Γ H100 hB.1 hU a0 h0) rfl rfl ⟨Nat.le_of_ble_eq_true rfl, Nat.le_of_ble_eq_true rfl⟩ hB.1 h0 ro_46 rfl rfl hl.1 rfl (Nat.le_of_ble_eq_true rfl) dX12_reads_104 ⟨Nat.le_refl _, Nat.le_refl _⟩) hB.2.1 (fun v104 H104 locs hp hz hS => ?_)
            obtain ⟨x18, rfl, lx18, ux18, q104_0, q104_1, q104_2, rfl⟩ := hp
            have hB := th_B_s hB hS
            replace hF := hF.trans (congrArg (dv_k f_X12_reads_34b) (dv_bn2 (q104_2)))
            refine W.eq (g2 := F0 m 107 ls [.int x18]) rfl ?_
            replace hF := hF.trans (dv_kr)
            exact th_iret hC hH hr hlocks (th_nb (by omega) (by omega)) hB.2.1 ⟨_, rfl, by omega, by omega, hB.1, hB.2.2, hR, fun h9 => by have q1 := q104_0 h9; obtain ⟨q2, q3⟩ := z40_1; have q4 := mo_pre_e (e5 (by omega)) (show ¬ (cv m5 = 159) by have q5 := q3 (by omega); omega); have q6 := mo_rd_F hB.1 hf100x h0 (by decide) cr_H40; rw [q6.1, show mo_f G H100 a0 18 = m5 by omega]; exact q4, (hF0.symm.trans hF)⟩ dX12_reads_107
          · replace hF := hF.trans (congrArg (dv_k f_X12_reads_34b) (if_neg (Int.not_le.mpr c88)))
            refine lv_aload_n hx hb dX12_reads_91 rfl (lv_at hl 0 rfl) ?_
            refine th_call (th_runV (As := []) (rest := []) hC mf_X12_faults km_X12_202 im_X12_faults se_X12_faults (c_X12_faults l G Γ H40 hB.1 hR hU a0 h0) rfl rfl ⟨Nat.le_of_ble_eq_true rfl, Nat.le_of_ble_eq_true rfl⟩ hB.1 h0 ro_46 rfl rfl hl.1 rfl (Nat.le_of_ble_eq_true rfl) dX12_reads_92 ⟨Nat.le_refl _, Nat.le_refl _⟩) hB.2.1 (fun v92 H92 locs hp hz hS => ?_)
            obtain ⟨rfl, hI1, hf, hR, z92_0, z92_1⟩ := hp
            have hB := th_B_c hB hI1 hS hf (by decide)
            have fv_H92_18 : mo_f G H92 a0 18 = mo_f G H40 a0 18 := mo_f_F hf h0 (by decide) (by decide)
            have fv_H92_19 : mo_f G H92 a0 19 = mo_f G H40 a0 19 := mo_f_F hf h0 (by decide) (by decide)
            have vv_H92_15 : mo_v G H92 a0 15 = mo_v G H40 a0 15 := mo_v_F (r := 55) hB.1 hf h0 rfl ro_55 (by decide) (by decide)
            replace hF := hF.trans (congrArg (dv_k f_X12_reads_34b) (dv_bn2 (z92_1)))
            refine W.eq (g2 := F0 m 95 ls []) rfl ?_
            refine lv_aload_n hx hb dX12_reads_95 rfl (lv_at hl 0 rfl) ?_
            refine lv_aload_n hx hb dX12_reads_96 rfl (lv_at hl 0 rfl) ?_
            refine th_getI (j := 21) hC cf_X12 hB.1 h0 ro_46 rfl rfl kf_X12_189 dX12_reads_97 (fun x19 mx19 lx19 ux19 => ?_)
            replace hF := hF.trans (congrArg (dv_k f_X12_reads_34b) (dv_bn (dv_getI h0 ro_46 (j := 21) rfl mx19 (by decide))))
            have fg20 : mo_f G H92 a0 21 = x19.toInt := mo_fat mx19
            refine th_put hC cf_X12 hB h0 (Or.inl h0) ro_46 rfl (j := 14) rfl th_sIa (by decide) rfl rfl rfl kf_X12_51 dX12_reads_100 (fun H100 locs hB hf hst100 => ?_)
            have hR := th_RC_F hB.1 hR hf (th_T_s h0 ro_46 hst100) (by decide)
            have fv_H100_18 : mo_f G H100 a0 18 = mo_f G H92 a0 18 := mo_f_F hf h0 (by decide) (by decide)
            have fv_H100_19 : mo_f G H100 a0 19 = mo_f G H92 a0 19 := mo_f_F hf h0 (by decide) (by decide)
            have fv_H100_21 : mo_f G H100 a0 21 = mo_f G H92 a0 21 := mo_f_F hf h0 (by decide) (by decide)
            have vv_H100_15 : mo_v G H100 a0 15 = mo_v G H92 a0 15 := mo_v_F (r := 55) hB.1 hf h0 rfl ro_55 (by decide) (by decide)
            replace hF := hF.trans (congrArg (dv_k f_X12_reads_34b) (dv_bn (dv_putI hB.1 h0 ro_46 (j := 14) rfl (th_apart hC cf_X12) hst100 (Eq.refl _) (by decide))))
            have hf100x := hf
            refine lv_aload_n hx hb dX12_reads_103 rfl (lv_at hl 0 rfl) ?_
            refine th_call (th_runV (As := []) (rest := []) hC mf_X12_fine km_X12_192 im_X12_fine se_X12_fine (c_X12_fine l G Γ H100 hB.1 hU a0 h0) rfl rfl ⟨Nat.le_of_ble_eq_true rfl, Nat.le_of_ble_eq_true rfl⟩ hB.1 h0 ro_46 rfl rfl hl.1 rfl (Nat.le_of_ble_eq_true rfl) dX12_reads_104 ⟨Nat.le_refl _, Nat.le_refl _⟩) hB.2.1 (fun v104 H104 locs hp hz hS => ?_)
            obtain ⟨x21, rfl, lx21, ux21, q104_0, q104_1, q104_2, rfl⟩ := hp
            have hB := th_B_s hB hS
            replace hF := hF.trans (congrArg (dv_k f_X12_reads_34b) (dv_bn2 (q104_2)))
            refine W.eq (g2 := F0 m 107 ls [.int x21]) rfl ?_
            replace hF := hF.trans (dv_kr)
            exact th_iret hC hH hr hlocks (th_nb (by omega) (by omega)) hB.2.1 ⟨_, rfl, by omega, by omega, hB.1, hB.2.2, hR, fun h9 => absurd (q104_0 h9) (by omega), (hF0.symm.trans hF)⟩ dX12_reads_107
      · specialize z40_0 (by omega); clear z40_1
        replace hF := hF.trans (congrArg (dv_k f_X12_reads_34b) (if_neg c43))
        refine lv_iload_n hx hb dX12_reads_46 rfl (lv_at hl 1 rfl) ?_
        refine lv_bipush (v := 12) hx hb dX12_reads_47 (by decide) ?_
        refine tr_icmp_ne (tgt := 56) hx hb dX12_reads_49 (by decide) (Eq.refl _) tk_12 (fun c49 => ?_) (fun c49 => ?_)
        · replace hF := hF.trans (congrArg (dv_k f_X12_reads_34b) (if_pos c49))
          refine lv_aload_n hx hb dX12_reads_56 rfl (lv_at hl 0 rfl) ?_
          refine th_call (th_runV (As := []) (rest := []) hC mf_X12_fine km_X12_192 im_X12_fine se_X12_fine (c_X12_fine l G Γ H40 hB.1 hU a0 h0) rfl rfl ⟨Nat.le_of_ble_eq_true rfl, Nat.le_of_ble_eq_true rfl⟩ hB.1 h0 ro_46 rfl rfl hl.1 rfl (Nat.le_of_ble_eq_true rfl) dX12_reads_57 ⟨Nat.le_refl _, Nat.le_refl _⟩) hB.2.1 (fun v57 H57 locs hp hz hS => ?_)
          obtain ⟨x22, rfl, lx22, ux22, q57_0, q57_1, q57_2, rfl⟩ := hp
          have hB := th_B_s hB hS
          replace hF := hF.trans (congrArg (dv_k f_X12_reads_34b) (dv_bn2 (q57_2)))
          refine W.eq (g2 := F0 m 60 ls [.int x22]) rfl ?_
          refine tr_if_eq (tgt := 67) hx hb dX12_reads_60 (by decide) (Eq.refl _) (fun c60 => ?_) (fun c60 => ?_)
          · specialize q57_1 (by omega); clear q57_0
            replace hF := hF.trans (congrArg (dv_k f_X12_reads_34b) (if_pos c60))
            refine tr_iincE (fun x23 => [(1, .int x23), (0, .ref a0)]) hx hb dX12_reads_67 hl (k := 1) rfl (Eq.refl _) (by decide) (fun _ => rfl) (fun x23 ls ex23 hl => ?_)
            have lx23 := ti_lo x23; have ux23 := ti_hi x23
            replace hF := hF.trans (congrArg (dv_k f_X12_reads_34b) (dv_bn (ex23)))
            refine lv_goto (tgt := 34) hx hb dX12_reads_70 (by decide) ?_
            replace hF := hF.trans (dv_kl)
            exact ih34 H40 locs ls x23 hB hR (lv_sub hl [1, 0] rfl) hF cr_H40 ⟨_, rfl, by omega, by omega, fun h9 => absurd h9 (by omega)⟩ (by omega) (by omega)
          · specialize q57_0 (by omega); clear q57_1
            replace hF := hF.trans (congrArg (dv_k f_X12_reads_34b) (if_neg c60))
            refine lv_aload_n hx hb dX12_reads_63 rfl (lv_at hl 0 rfl) ?_
            refine th_call (th_runV (As := []) (rest := []) hC mf_X12_readOne km_X12_262 im_X12_readOne se_X12_readOne (c_X12_readOne l G Γ H40 hB.1 hR hU a0 h0 o cv (m5 + 1) cr_H40 ⟨by omega, by omega, by omega⟩ (mo_wd_F hB.2.2 h0 (by decide) k1)) rfl rfl ⟨Nat.le_of_ble_eq_true rfl, Nat.le_of_ble_eq_true rfl⟩ hB.1 h0 ro_46 rfl rfl hl.1 rfl (Nat.le_of_ble_eq_true rfl) dX12_reads_64 ⟨Nat.le_refl _, Nat.le_refl _⟩) hB.2.1 (fun v64 H64 locs hp hz hS => ?_)
            obtain ⟨rfl, hI1, hf, hR, z64_0, z64_1, z64_2⟩ := hp
            have hB := th_B_c hB hI1 hS hf (by decide)
            have fv_H64_18 : mo_f G H64 a0 18 = mo_f G H40 a0 18 := mo_f_F hf h0 (by decide) (by decide)
            have vv_H64_15 : mo_v G H64 a0 15 = mo_v G H40 a0 15 := mo_v_F (r := 55) hB.1 hf h0 rfl ro_55 (by decide) (by decide)
            replace hF := hF.trans (congrArg (dv_k f_X12_reads_34b) (dv_bn2 (z64_2)))
            refine W.eq (g2 := F0 m 67 ls []) rfl ?_
            have cr_H64 : mo_rd G H64 a0 cv := mo_rd_F hB.1 hf h0 (by decide) cr_H40
            refine tr_iincE (fun x24 => [(1, .int x24), (0, .ref a0)]) hx hb dX12_reads_67 hl (k := 1) rfl (Eq.refl _) (by decide) (fun _ => rfl) (fun x24 ls ex24 hl => ?_)
            have lx24 := ti_lo x24; have ux24 := ti_hi x24
            replace hF := hF.trans (congrArg (dv_k f_X12_reads_34b) (dv_bn (ex24)))
            refine lv_goto (tgt := 34) hx hb dX12_reads_70 (by decide) ?_
            replace hF := hF.trans (dv_kl)
            exact ih34 H64 locs ls x24 hB hR (lv_sub hl [1, 0] rfl) hF cr_H64 ⟨_, rfl, by omega, by omega, fun h9 => by obtain ⟨q1, q2⟩ := z64_1 h9; obtain ⟨q3, q4, q5⟩ := z40_0; exact mo_pre_s (e5 (by omega)) (show cv m5 = 159 by omega) q2⟩ (by omega) (by omega)
        · replace hF := hF.trans (congrArg (dv_k f_X12_reads_34b) (if_neg (not_not_intro c49)))
          refine lv_aload_n hx hb dX12_reads_52 rfl (lv_at hl 0 rfl) ?_
          refine th_call (th_runV (As := []) (rest := []) hC mf_X12_faults km_X12_202 im_X12_faults se_X12_faults (c_X12_faults l G Γ H40 hB.1 hR hU a0 h0) rfl rfl ⟨Nat.le_of_ble_eq_true rfl, Nat.le_of_ble_eq_true rfl⟩ hB.1 h0 ro_46 rfl rfl hl.1 rfl (Nat.le_of_ble_eq_true rfl) dX12_reads_53 ⟨Nat.le_refl _, Nat.le_refl _⟩) hB.2.1 (fun v53 H53 locs hp hz hS => ?_)
          obtain ⟨rfl, hI1, hf, hR, z53_0, z53_1⟩ := hp
          have hB := th_B_c hB hI1 hS hf (by decide)
          have fv_H53_18 : mo_f G H53 a0 18 = mo_f G H40 a0 18 := mo_f_F hf h0 (by decide) (by decide)
          have fv_H53_19 : mo_f G H53 a0 19 = mo_f G H40 a0 19 := mo_f_F hf h0 (by decide) (by decide)
          have vv_H53_15 : mo_v G H53 a0 15 = mo_v G H40 a0 15 := mo_v_F (r := 55) hB.1 hf h0 rfl ro_55 (by decide) (by decide)
          replace hF := hF.trans (congrArg (dv_k f_X12_reads_34b) (dv_bn2 (z53_1)))
          refine W.eq (g2 := F0 m 56 ls []) rfl ?_
          have cr_H53 : mo_rd G H53 a0 cv := mo_rd_F hB.1 hf h0 (by decide) cr_H40
          refine lv_aload_n hx hb dX12_reads_56 rfl (lv_at hl 0 rfl) ?_
          refine th_call (th_runV (As := []) (rest := []) hC mf_X12_fine km_X12_192 im_X12_fine se_X12_fine (c_X12_fine l G Γ H53 hB.1 hU a0 h0) rfl rfl ⟨Nat.le_of_ble_eq_true rfl, Nat.le_of_ble_eq_true rfl⟩ hB.1 h0 ro_46 rfl rfl hl.1 rfl (Nat.le_of_ble_eq_true rfl) dX12_reads_57 ⟨Nat.le_refl _, Nat.le_refl _⟩) hB.2.1 (fun v57 H57 locs hp hz hS => ?_)
          obtain ⟨x25, rfl, lx25, ux25, q57_0, q57_1, q57_2, rfl⟩ := hp
          have hB := th_B_s hB hS
          replace hF := hF.trans (congrArg (dv_k f_X12_reads_34b) (dv_bn2 (q57_2)))
          refine W.eq (g2 := F0 m 60 ls [.int x25]) rfl ?_
          refine tr_if_eq (tgt := 67) hx hb dX12_reads_60 (by decide) (Eq.refl _) (fun c60 => ?_) (fun c60 => ?_)
          · specialize q57_1 (by omega); clear q57_0
            replace hF := hF.trans (congrArg (dv_k f_X12_reads_34b) (if_pos c60))
            refine tr_iinc (fun x26 => [(1, .int x26), (0, .ref a0)]) hx hb dX12_reads_67 hl (k := 1) rfl (Eq.refl _) tk_1 (by omega) (by omega) (by decide) (fun _ => rfl) (fun x26 ls ex26 hl => ?_)
            replace hF := hF.trans (congrArg (dv_k f_X12_reads_34b) (dv_bn (ex26.symm)))
            refine lv_goto (tgt := 34) hx hb dX12_reads_70 (by decide) ?_
            replace hF := hF.trans (dv_kl)
            exact ih34 H53 locs ls x26 hB hR (lv_sub hl [1, 0] rfl) hF cr_H53 ⟨_, rfl, by omega, by omega, fun h9 => absurd h9 (by omega)⟩ (by omega) (by omega)
          · specialize q57_0 (by omega); clear q57_1
            replace hF := hF.trans (congrArg (dv_k f_X12_reads_34b) (if_neg c60))
            refine lv_aload_n hx hb dX12_reads_63 rfl (lv_at hl 0 rfl) ?_
            refine th_call (th_runV (As := []) (rest := []) hC mf_X12_readOne km_X12_262 im_X12_readOne se_X12_readOne (c_X12_readOne l G Γ H53 hB.1 hR hU a0 h0 o cv (m5 + 1) cr_H53 ⟨by omega, by omega, by omega⟩ (mo_wd_F hB.2.2 h0 (by decide) k1)) rfl rfl ⟨Nat.le_of_ble_eq_true rfl, Nat.le_of_ble_eq_true rfl⟩ hB.1 h0 ro_46 rfl rfl hl.1 rfl (Nat.le_of_ble_eq_true rfl) dX12_reads_64 ⟨Nat.le_refl _, Nat.le_refl _⟩) hB.2.1 (fun v64 H64 locs hp hz hS => ?_)
            obtain ⟨rfl, hI1, hf, hR, z64_0, z64_1, z64_2⟩ := hp
            have hB := th_B_c hB hI1 hS hf (by decide)
            have fv_H64_18 : mo_f G H64 a0 18 = mo_f G H53 a0 18 := mo_f_F hf h0 (by decide) (by decide)
            have vv_H64_15 : mo_v G H64 a0 15 = mo_v G H53 a0 15 := mo_v_F (r := 55) hB.1 hf h0 rfl ro_55 (by decide) (by decide)
            replace hF := hF.trans (congrArg (dv_k f_X12_reads_34b) (dv_bn2 (z64_2)))
            refine W.eq (g2 := F0 m 67 ls []) rfl ?_
            have cr_H64 : mo_rd G H64 a0 cv := mo_rd_F hB.1 hf h0 (by decide) cr_H53
            refine tr_iinc (fun x27 => [(1, .int x27), (0, .ref a0)]) hx hb dX12_reads_67 hl (k := 1) rfl (Eq.refl _) tk_1 (by omega) (by omega) (by decide) (fun _ => rfl) (fun x27 ls ex27 hl => ?_)
            replace hF := hF.trans (congrArg (dv_k f_X12_reads_34b) (dv_bn (ex27.symm)))
            refine lv_goto (tgt := 34) hx hb dX12_reads_70 (by decide) ?_
            replace hF := hF.trans (dv_kl)
            exact ih34 H64 locs ls x27 hB hR (lv_sub hl [1, 0] rfl) hF cr_H64 ⟨_, rfl, by omega, by omega, fun h9 => by obtain ⟨q1, q2⟩ := z64_1 h9; obtain ⟨q3, q4, q5⟩ := z40_0; exact mo_pre_s (e5 (by omega)) (show cv m5 = 159 by omega) q2⟩ (by omega) (by omega)
  exact lp34 (n0 - mo_f G H29 a0 19 + 1).toNat H29 locs ls 1 hB hR (lv_sub hl [1, 0] rfl) (by rw [tk_1]; exact hF) cr_H29 ⟨_, rfl, by omega, by omega, fun h9 => mo_pre_0 (z29_1 h9).2⟩ (by have w0 := tk_1; omega) (by have w0 := tk_1; omega)
