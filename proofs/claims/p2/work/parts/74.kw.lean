set_option maxHeartbeats 4000000 in
set_option maxRecDepth 100000 in
theorem c_X11_halls_k (l : Launch) (G : th_G) (Γ : th_Ga) (H0 : Heap) (hI : th_I G Γ H0) (hR : th_RC G Γ H0) (hU : dv_U Γ) (a0 : Nat) (h0 : Γ a0 = (42, 0)) (p1 : Int32) (sh : Nat) (hsh : Γ sh = (3, 0)) (msh : th_sl H0 a0 (G.1.2 11 4) = .ref sh) (u0 : Nat) (hu0 : th_bits G Γ H0 u0) : Met l yX11_halls (.code yX11_halls cX11_halls 6 (some FieldType.int) :: th_tb) ({ frames := 16, cells := (th_pc u0), slots := (th_pq u0), locals := 451 } : Room) (th_P [.ref a0, .int p1] G H0) (th_Q (fun (v : Option Value) (H1 : Heap) => ∃ r : Int32, v = some (.int r) ∧ th_I G Γ H1 ∧ th_F G Γ [(24, 0), (23, 3), (26, 0), (25, 0), (28, 0), (29, 0), (12, 0), (12, 1), (12, 2), (12, 3), (12, 4), (12, 5), (12, 6), (31, 0), (27, 5), (27, 6), (27, 7), (27, 8), (27, 9), (27, 10), (27, 11), (27, 12), (27, 13), (10, 0), (4, 0), (5, 0), (6, 0), (9, 0), (3, 7), (3, 8), (3, 9), (3, 10), (7, 0), (8, 0)] H0 H1 ∧ th_RC G Γ H1 ∧ (kv G Γ H1 (sh : Int) = kv G Γ H0 (sh : Int)) ∧ th_bp G Γ H0 H1 u0) G) (th_pc u0) (th_pq u0) (fun q => G.2.2 ≤ q) := by
  refine th_met RX11 (by decide) rfl (Nat.le_of_ble_eq_true rfl) ?_
  intro p e s m below meth c hC hH hr hlocks hnm ls hl
  have hx := hC.1
  have hb := hC.2.1
  have hB : th_B G Γ Γ [(24, 0), (23, 3), (26, 0), (25, 0), (28, 0), (29, 0), (12, 0), (12, 1), (12, 2), (12, 3), (12, 4), (12, 5), (12, 6), (31, 0), (27, 5), (27, 6), (27, 7), (27, 8), (27, 9), (27, 10), (27, 11), (27, 12), (27, 13), (10, 0), (4, 0), (5, 0), (6, 0), (9, 0), (3, 7), (3, 8), (3, 9), (3, 10), (7, 0), (8, 0)] H0 H0 [] := ⟨hI, va_S.rf, th_F_rf⟩
  have hl : lv_has ls 6 [(0, .ref a0), (1, .int p1)] := hl
  have lp1 := ti_lo p1; have up1 := ti_hi p1
  have ku0 : th_pc u0 ≤ th_pc u0 ∧ th_pq u0 ≤ th_pq u0 := ⟨Nat.le_refl _, Nat.le_refl _⟩
  refine W.widen (k := th_pc u0 - th_pc u0) (n := th_pq u0 - th_pq u0) (Nat.zero_le _) (Nat.zero_le _) ?_
  refine lv_iload_n hx hb dX11_halls_0 rfl (lv_at hl 1 rfl) ?_
  refine lv_iconst (v := (-1)) hx hb dX11_halls_1 (by decide) ?_
  refine tr_icmp_ge (tgt := 7) hx hb dX11_halls_2 (by decide) (Eq.refl _) tk_m1 (fun c2 => ?_) (fun c2 => ?_)
  · refine lv_aload_n hx hb dX11_halls_7 rfl (lv_at hl 0 rfl) ?_
    refine th_getR (j := 0) (r2 := 32) hC cf_X11 hB.1 h0 ro_42 rfl rfl kf_X11_12 dX11_halls_8 (fun b1 mb1 hb1 => ?_)
    refine th_getR (j := 0) (r2 := 3) hC cf_X8 hB.1 hb1 ro_32 rfl rfl kf_X11_107 dX11_halls_11 (fun b2 mb2 hb2 => ?_)
    have hIo := hB.1
    refine th_call (th_runV (As := []) (rest := []) hC mf_X1_areaWithoutRags km_X11_272 im_X1_areaWithoutRags se_X1_areaWithoutRags (c_X1_areaWithoutRags l G Γ H0 hB.1 hU b2 hb2) rfl rfl ⟨Nat.le_of_ble_eq_true rfl, Nat.le_of_ble_eq_true rfl⟩ hB.1 hb2 ro_3 rfl rfl hl.1 rfl (Nat.le_of_ble_eq_true rfl) dX11_halls_14 ⟨by dsimp only; omega, by dsimp only; omega⟩) hB.2.1 (fun v14 H14 locs hp hz hS => ?_)
    obtain ⟨x3, rfl, q14_0, rfl⟩ := hp
    have hB := th_B_s hB hS
    refine W.eq (g2 := F0 m 17 ls [.int x3]) rfl ?_
    refine lv_istore_n (lv' := [(2, .int x3), (0, .ref a0), (1, .int p1)]) hx hb dX11_halls_17 rfl hl (by decide) rfl (fun ls hl => ?_)
    refine lv_iconst (v := 0) hx hb dX11_halls_18 (by decide) ?_
    refine lv_istore_n (lv' := [(3, .int 0), (2, .int x3), (0, .ref a0), (1, .int p1)]) hx hb dX11_halls_19 rfl hl (by decide) rfl (fun ls hl => ?_)
    refine lv_iconst (v := 1) hx hb dX11_halls_20 (by decide) ?_
    refine lv_istore (lv' := [(4, .int 1), (3, .int 0), (2, .int x3), (0, .ref a0), (1, .int p1)]) hx hb dX11_halls_21 hl (by decide) rfl (fun ls hl => ?_)
    have lp23 : ∀ (n23 : Nat) (H23 : Heap) (u23 : Nat) (locs : List Loc) (ls : Array Slot) (j23_3 : Int32) (j23_4 : Int32), th_B G Γ Γ [(24, 0), (23, 3), (26, 0), (25, 0), (28, 0), (29, 0), (12, 0), (12, 1), (12, 2), (12, 3), (12, 4), (12, 5), (12, 6), (31, 0), (27, 5), (27, 6), (27, 7), (27, 8), (27, 9), (27, 10), (27, 11), (27, 12), (27, 13), (10, 0), (4, 0), (5, 0), (6, 0), (9, 0), (3, 7), (3, 8), (3, 9), (3, 10), (7, 0), (8, 0)] H0 H23 locs → th_RC G Γ H23 → lv_has ls 6 [(2, .int x3), (0, .ref a0), (1, .int p1), (3, .int j23_3), (4, .int j23_4)] → 1 ≤ j23_4.toInt → j23_4.toInt ≤ 15 → kv G Γ H23 (sh : Int) = kv G Γ H0 (sh : Int) → th_bits G Γ H23 u23 → (th_pc u23 ≤ th_pc u0 ∧ th_pq u23 ≤ th_pq u0) → (2147483648 : Int) - j23_4.toInt ≤ (n23 : Int) → W p l e ({ frames := 16, cells := (th_pc u0), slots := (th_pq u0), locals := 451 } : Room) s m ([.ref a0, .int p1] : List Value).toArray below meth c H23 locs (th_pc u0 - th_pc u23) (th_pq u0 - th_pq u23) (MQ below (th_Q (fun (v : Option Value) (H1 : Heap) => ∃ r : Int32, v = some (.int r) ∧ th_I G Γ H1 ∧ th_F G Γ [(24, 0), (23, 3), (26, 0), (25, 0), (28, 0), (29, 0), (12, 0), (12, 1), (12, 2), (12, 3), (12, 4), (12, 5), (12, 6), (31, 0), (27, 5), (27, 6), (27, 7), (27, 8), (27, 9), (27, 10), (27, 11), (27, 12), (27, 13), (10, 0), (4, 0), (5, 0), (6, 0), (9, 0), (3, 7), (3, 8), (3, 9), (3, 10), (7, 0), (8, 0)] H0 H1 ∧ th_RC G Γ H1 ∧ (kv G Γ H1 (sh : Int) = kv G Γ H0 (sh : Int)) ∧ th_bp G Γ H0 H1 u0) G) ([.ref a0, .int p1] : List Value).toArray s (th_pc u0) (th_pq u0) (fun q => G.2.2 ≤ q)) (F0 m 23 ls []) := by
      intro n23
      induction n23 with
      | zero => intro H23 u23 locs ls j23_3 j23_4 hB hR hl g23_0 g23_1 g23_2 g23_3 g23_4 hm23; exact absurd hm23 (by have := ti_hi j23_4; omega)
      | succ n23 ih23 =>
        intro H23 u23 locs ls j23_3 j23_4 hB hR hl g23_0 g23_1 g23_2 g23_3 g23_4 hm23
        have lj23_3 := ti_lo j23_3; have uj23_3 := ti_hi j23_3
        have lj23_4 := ti_lo j23_4; have uj23_4 := ti_hi j23_4
        have mm4 := (th_F_o hB.2.2 h0 ro_42 (j := 4) (by decide) (by decide)).trans msh
        have mm5 := (th_F_o hB.2.2 h0 ro_42 (j := 0) (by decide) (by decide)).trans mb1
        have mm6 := (th_F_o hB.2.2 hb1 ro_32 (j := 0) (by decide) (by decide)).trans mb2
        have hm23 : (2147483648 : Int) - j23_4.toInt ≤ (n23 : Int) + 1 := by omega
        refine lv_iload hx hb dX11_halls_23 (lv_at hl 4 rfl) ?_
        refine lv_bipush (v := 12) hx hb dX11_halls_25 (by decide) ?_
        have jn143 : ∀ (locs : List Loc) (ls : Array Slot) , th_B G Γ Γ [(24, 0), (23, 3), (26, 0), (25, 0), (28, 0), (29, 0), (12, 0), (12, 1), (12, 2), (12, 3), (12, 4), (12, 5), (12, 6), (31, 0), (27, 5), (27, 6), (27, 7), (27, 8), (27, 9), (27, 10), (27, 11), (27, 12), (27, 13), (10, 0), (4, 0), (5, 0), (6, 0), (9, 0), (3, 7), (3, 8), (3, 9), (3, 10), (7, 0), (8, 0)] H0 H23 locs → lv_has ls 6 [(1, .int p1), (3, .int j23_3)] → W p l e ({ frames := 16, cells := (th_pc u0), slots := (th_pq u0), locals := 451 } : Room) s m ([.ref a0, .int p1] : List Value).toArray below meth c H23 locs (th_pc u0 - th_pc u23) (th_pq u0 - th_pq u23) (MQ below (th_Q (fun (v : Option Value) (H1 : Heap) => ∃ r : Int32, v = some (.int r) ∧ th_I G Γ H1 ∧ th_F G Γ [(24, 0), (23, 3), (26, 0), (25, 0), (28, 0), (29, 0), (12, 0), (12, 1), (12, 2), (12, 3), (12, 4), (12, 5), (12, 6), (31, 0), (27, 5), (27, 6), (27, 7), (27, 8), (27, 9), (27, 10), (27, 11), (27, 12), (27, 13), (10, 0), (4, 0), (5, 0), (6, 0), (9, 0), (3, 7), (3, 8), (3, 9), (3, 10), (7, 0), (8, 0)] H0 H1 ∧ th_RC G Γ H1 ∧ (kv G Γ H1 (sh : Int) = kv G Γ H0 (sh : Int)) ∧ th_bp G Γ H0 H1 u0) G) ([.ref a0, .int p1] : List Value).toArray s (th_pc u0) (th_pq u0) (fun q => G.2.2 ≤ q)) (F0 m 143 ls []) := by
          intro locs ls hB hl
          refine lv_iload_n hx hb dX11_halls_143 rfl (lv_at hl 0 rfl) ?_
          refine lv_iconst (v := (-1)) hx hb dX11_halls_144 (by decide) ?_
          refine tr_icmp_ne (tgt := 152) hx hb dX11_halls_145 (by decide) (Eq.refl _) tk_m1 (fun c145 => ?_) (fun c145 => ?_)
          · refine lv_iconst (v := (-1)) hx hb dX11_halls_152 (by decide) ?_
            refine W.count (fun hc1 hc2 => ?_)
            rw [hH] at hc1 hc2
            refine W.widen (k := th_pc u0) (n := th_pq u0) (Nat.sub_le _ _) (Nat.sub_le _ _) ?_
            exact th_iret hC hH hr hlocks rfl hB.2.1 ⟨_, rfl, hB.1, hB.2.2, hR, g23_2, ⟨u23, g23_3, g23_4.1, g23_4.2, by omega, by omega⟩⟩ dX11_halls_153
          · refine lv_iload_n hx hb dX11_halls_148 rfl (lv_at hl 1 rfl) ?_
            refine lv_goto (tgt := 153) hx hb dX11_halls_149 (by decide) ?_
            refine W.count (fun hc1 hc2 => ?_)
            rw [hH] at hc1 hc2
            refine W.widen (k := th_pc u0) (n := th_pq u0) (Nat.sub_le _ _) (Nat.sub_le _ _) ?_
            exact th_iret hC hH hr hlocks rfl hB.2.1 ⟨_, rfl, hB.1, hB.2.2, hR, g23_2, ⟨u23, g23_3, g23_4.1, g23_4.2, by omega, by omega⟩⟩ dX11_halls_153
        refine tr_icmp_gt (tgt := 143) hx hb dX11_halls_27 (by decide) (Eq.refl _) tk_12 (fun c27 => ?_) (fun c27 => ?_)
        · exact jn143 locs ls hB (lv_sub hl [2, 3] rfl)
        · refine lv_iload_n hx hb dX11_halls_30 rfl (lv_at hl 0 rfl) ?_
          refine tr_if_le (tgt := 143) hx hb dX11_halls_31 (by decide) (Eq.refl _) (fun c31 => ?_) (fun c31 => ?_)
          · exact jn143 locs ls hB (lv_sub hl [2, 3] rfl)
          · refine lv_iload_n hx hb dX11_halls_34 rfl (lv_at hl 0 rfl) ?_
            refine lv_iload hx hb dX11_halls_35 (lv_at hl 4 rfl) ?_
            refine tr_idiv hx hb dX11_halls_37 (Eq.refl _) (Eq.refl _) (by omega) (by omega) (fun x7 ex7 => ?_)
            have fx7 := ti_divb (a := x3.toInt) (b := j23_4.toInt) (by omega) (by omega)
            rw [← ex7] at fx7
            refine lv_istore (lv' := [(5, .int x7), (2, .int x3), (0, .ref a0), (1, .int p1), (3, .int j23_3), (4, .int j23_4)]) hx hb dX11_halls_38 hl (by decide) rfl (fun ls hl => ?_)
            refine lv_iload hx hb dX11_halls_40 (lv_at hl 0 rfl) ?_
            refine lv_bipush (v := 12) hx hb dX11_halls_42 (by decide) ?_
            have jn137 : ∀ (H137 : Heap) (u137 : Nat) (locs : List Loc) (ls : Array Slot) (j137_3 : Int32), th_B G Γ Γ [(24, 0), (23, 3), (26, 0), (25, 0), (28, 0), (29, 0), (12, 0), (12, 1), (12, 2), (12, 3), (12, 4), (12, 5), (12, 6), (31, 0), (27, 5), (27, 6), (27, 7), (27, 8), (27, 9), (27, 10), (27, 11), (27, 12), (27, 13), (10, 0), (4, 0), (5, 0), (6, 0), (9, 0), (3, 7), (3, 8), (3, 9), (3, 10), (7, 0), (8, 0)] H0 H137 locs → th_RC G Γ H137 → lv_has ls 6 [(2, .int x3), (0, .ref a0), (1, .int p1), (4, .int j23_4), (3, .int j137_3)] → kv G Γ H137 (sh : Int) = kv G Γ H0 (sh : Int) → th_bits G Γ H137 u137 → (th_pc u137 ≤ th_pc u0 ∧ th_pq u137 ≤ th_pq u0) → W p l e ({ frames := 16, cells := (th_pc u0), slots := (th_pq u0), locals := 451 } : Room) s m ([.ref a0, .int p1] : List Value).toArray below meth c H137 locs (th_pc u0 - th_pc u137) (th_pq u0 - th_pq u137) (MQ below (th_Q (fun (v : Option Value) (H1 : Heap) => ∃ r : Int32, v = some (.int r) ∧ th_I G Γ H1 ∧ th_F G Γ [(24, 0), (23, 3), (26, 0), (25, 0), (28, 0), (29, 0), (12, 0), (12, 1), (12, 2), (12, 3), (12, 4), (12, 5), (12, 6), (31, 0), (27, 5), (27, 6), (27, 7), (27, 8), (27, 9), (27, 10), (27, 11), (27, 12), (27, 13), (10, 0), (4, 0), (5, 0), (6, 0), (9, 0), (3, 7), (3, 8), (3, 9), (3, 10), (7, 0), (8, 0)] H0 H1 ∧ th_RC G Γ H1 ∧ (kv G Γ H1 (sh : Int) = kv G Γ H0 (sh : Int)) ∧ th_bp G Γ H0 H1 u0) G) ([.ref a0, .int p1] : List Value).toArray s (th_pc u0) (th_pq u0) (fun q => G.2.2 ≤ q)) (F0 m 137 ls []) := by
              intro H137 u137 locs ls j137_3 hB hR hl g137_0 g137_1 g137_2
              have lj137_3 := ti_lo j137_3; have uj137_3 := ti_hi j137_3
              have mm8 := (th_F_o hB.2.2 h0 ro_42 (j := 4) (by decide) (by decide)).trans msh
              have mm9 := (th_F_o hB.2.2 h0 ro_42 (j := 0) (by decide) (by decide)).trans mb1
              have mm10 := (th_F_o hB.2.2 hb1 ro_32 (j := 0) (by decide) (by decide)).trans mb2
              refine tr_iinc (fun x11 => [(4, .int x11), (2, .int x3), (0, .ref a0), (1, .int p1), (3, .int j137_3)]) hx hb dX11_halls_137 hl (k := 3) rfl (Eq.refl _) tk_1 (by omega) (by omega) (by decide) (fun _ => rfl) (fun x11 ls ex11 hl => ?_)
              refine lv_goto (tgt := 23) hx hb dX11_halls_140 (by decide) ?_
              exact ih23 H137 u137 locs ls j137_3 x11 hB hR (lv_sub hl [1, 2, 3, 4, 0] rfl) (by omega) (by omega) g137_0 g137_1 g137_2 (by omega)
            refine tr_icmp_gt (tgt := 137) hx hb dX11_halls_44 (by decide) (Eq.refl _) tk_12 (fun c44 => ?_) (fun c44 => ?_)
            · exact jn137 H23 u23 locs ls j23_3 hB hR (lv_sub hl [1, 2, 3, 5, 4] rfl) g23_2 g23_3 g23_4
            · refine lv_iload hx hb dX11_halls_47 (lv_at hl 0 rfl) ?_
              refine lv_iload hx hb dX11_halls_49 (lv_at hl 5 rfl) ?_
              have q13 := ti_mulr (a := x7.toInt) (b := j23_4.toInt) (A := 12) (B := 12) (by omega) (by omega) (by omega) (by omega)
              generalize hex12 : x7.toInt * j23_4.toInt = wx12 at q13
              refine tr_imul hx hb dX11_halls_51 (Eq.refl _) (Eq.refl _) (by rw [hex12]; omega) (by rw [hex12]; omega) (fun x12 ex12 => ?_)
              rw [hex12] at ex12
              refine lv_iload_n hx hb dX11_halls_52 rfl (lv_at hl 1 rfl) ?_
              refine tr_icmp_eq (tgt := 59) hx hb dX11_halls_53 (by decide) (Eq.refl _) (Eq.refl _) (fun c53 => ?_) (fun c53 => ?_)
              · refine lv_aload_n hx hb dX11_halls_59 rfl (lv_at hl 2 rfl) ?_
                have f59 : 1 ≤ x7.toInt := by
                  rcases Int.lt_or_le 0 x7.toInt with h9 | h9
                  · omega
                  · have h8 : x7.toInt = 0 := by omega
                    rw [h8, Int.zero_mul] at hex12
                    omega
                refine th_getK hC cf_X11 hB.1 h0 ro_42 rfl (j := 4) (by decide) mm4 kf_X11_31 dX11_halls_60 ?_
                refine lv_aload_n hx hb dX11_halls_63 rfl (lv_at hl 2 rfl) ?_
                refine th_getK hC cf_X11 hB.1 h0 ro_42 rfl (j := 0) (by decide) mm5 kf_X11_12 dX11_halls_64 ?_
                refine th_getK hC cf_X8 hB.1 hb1 ro_32 rfl (j := 0) (by decide) mm6 kf_X11_107 dX11_halls_67 ?_
                have hIo := hB.1
                refine th_call (th_runV (As := [.ref b2]) (rest := []) hC mf_X1_copyFrom km_X11_275 im_X1_copyFrom se_X1_copyFrom (c_X1_copyFrom l G Γ H23 hB.1 hR hU sh hsh b2 hb2) rfl rfl ⟨Nat.le_of_ble_eq_true rfl, Nat.le_of_ble_eq_true rfl⟩ hB.1 hsh ro_3 rfl rfl hl.1 rfl (Nat.le_of_ble_eq_true rfl) dX11_halls_70 ⟨by dsimp only; omega, by dsimp only; omega⟩) hB.2.1 (fun v70 H70 locs hp hz hS => ?_)
                obtain ⟨rfl, hI1, hf, hR, z70_0⟩ := hp
                have hB := th_B_c hB hI1 hS hf (by decide)
                have mm14 := (th_F_o hf h0 ro_42 (j := 4) (by decide) (by decide)).trans mm4
                have mm15 := (th_F_o hf h0 ro_42 (j := 0) (by decide) (by decide)).trans mm5
                have mm16 := (th_F_o hf hb1 ro_32 (j := 0) (by decide) (by decide)).trans mm6
                have mu17 := th_bits_F hf g23_3 (by decide)
                have tv_w_H70 : kv G Γ H70 (sh : Int) = kv G Γ H0 (sh : Int) := (kv_c (bo_copy z70_0)).trans g23_2
                refine W.eq (g2 := F0 m 73 ls []) rfl ?_
                refine lv_aload_n hx hb dX11_halls_73 rfl (lv_at hl 2 rfl) ?_
                refine th_getK hC cf_X11 hB.1 h0 ro_42 rfl (j := 4) (by decide) mm14 kf_X11_31 dX11_halls_74 ?_
                refine lv_iload hx hb dX11_halls_77 (lv_at hl 5 rfl) ?_
                refine lv_iload hx hb dX11_halls_79 (lv_at hl 0 rfl) ?_
                have hIo := hB.1
                refine th_call (th_runV (As := [.int j23_4, .int x7]) (rest := []) hC mf_X1_emptyInto km_X11_278 im_X1_emptyInto se_X1_emptyInto (c_X1_emptyInto l G Γ H70 hB.1 hR hU sh hsh j23_4 (by omega) (by omega) x7 (by omega) (by omega)) rfl rfl ⟨Nat.le_of_ble_eq_true rfl, Nat.le_of_ble_eq_true rfl⟩ hB.1 hsh ro_3 rfl rfl hl.1 rfl (Nat.le_of_ble_eq_true rfl) dX11_halls_81 ⟨by dsimp only; omega, by dsimp only; omega⟩) hB.2.1 (fun v81 H81 locs hp hz hS => ?_)
                obtain ⟨rfl, hI1, hf, hR, z81_0⟩ := hp
                have hB := th_B_c hB hI1 hS hf (by decide)
                have mm18 := (th_F_o hf h0 ro_42 (j := 4) (by decide) (by decide)).trans mm14
                have mm19 := (th_F_o hf h0 ro_42 (j := 0) (by decide) (by decide)).trans mm15
                have mm20 := (th_F_o hf hb1 ro_32 (j := 0) (by decide) (by decide)).trans mm16
                have mu21 := th_bits_F hf mu17 (by decide)
                have tv_w_H81 : kv G Γ H81 (sh : Int) = kv G Γ H0 (sh : Int) := (kv_c (bo_into z81_0)).trans tv_w_H70
                refine W.eq (g2 := F0 m 84 ls []) rfl ?_
                refine lv_aload_n hx hb dX11_halls_84 rfl (lv_at hl 2 rfl) ?_
                refine th_getR (j := 11) (r2 := 27) hC cf_X11 hB.1 h0 ro_42 rfl rfl kf_X11_79 dX11_halls_85 (fun b22 mb22 hb22 => ?_)
                have sb22 := (th_F_o hB.2.2 h0 ro_42 (j := 11) (by decide) (by decide)).symm.trans mb22
                refine lv_aload_n hx hb dX11_halls_88 rfl (lv_at hl 2 rfl) ?_
                refine th_getK hC cf_X11 hB.1 h0 ro_42 rfl (j := 4) (by decide) mm18 kf_X11_31 dX11_halls_89 ?_
                refine lv_aload_n hx hb dX11_halls_92 rfl (lv_at hl 2 rfl) ?_
                refine th_getK hC cf_X11 hB.1 h0 ro_42 rfl (j := 0) (by decide) mm19 kf_X11_12 dX11_halls_93 ?_
                have hIo := hB.1
                refine th_call (th_runV (As := []) (rest := [.ref sh, .ref b22]) hC mf_X8_forcedLaw km_X11_143 im_X8_forcedLaw se_X8_forcedLaw (c_X8_forcedLaw l G Γ H81 hB.1 hU b1 hb1) rfl rfl ⟨Nat.le_of_ble_eq_true rfl, Nat.le_of_ble_eq_true rfl⟩ hB.1 hb1 ro_32 rfl rfl hl.1 rfl (Nat.le_of_ble_eq_true rfl) dX11_halls_96 ⟨by dsimp only; omega, by dsimp only; omega⟩) hB.2.1 (fun v96 H96 locs hp hz hS => ?_)
                obtain ⟨v23, rfl, hv23, q96_0, rfl⟩ := hp
                have hB := th_B_s hB hS
                refine W.eq (g2 := F0 m 99 ls [v23, .ref sh, .ref b22]) rfl ?_
                refine lv_aload_n hx hb dX11_halls_99 rfl (lv_at hl 2 rfl) ?_
                refine th_getR (j := 9) (r2 := 11) hC cf_X11 hB.1 h0 ro_42 rfl rfl kf_X11_65 dX11_halls_100 (fun b24 mb24 hb24 => ?_)
                have sb24 := (th_F_o hB.2.2 h0 ro_42 (j := 9) (by decide) (by decide)).symm.trans mb24
                have hIo := hB.1
                refine th_call (th_runV (As := [.ref sh, v23, .ref b24]) (rest := []) hC mf_X7_prepare km_X11_255 im_X7_prepare se_X7_prepare (c_X7_prepare l G Γ H81 hB.1 hR hU b22 hb22 sh hsh v23 hv23 b24 hb24) rfl rfl ⟨Nat.le_of_ble_eq_true rfl, Nat.le_of_ble_eq_true rfl⟩ hB.1 hb22 ro_27 rfl rfl hl.1 rfl (Nat.le_of_ble_eq_true rfl) dX11_halls_103 ⟨by dsimp only; omega, by dsimp only; omega⟩) hB.2.1 (fun v103 H103 locs hp hz hS => ?_)
                obtain ⟨rfl, hI1, hf, hR, z103_0, z103_1⟩ := hp
                have hB := th_B_c hB hI1 hS hf (by decide)
                have mm25 := (th_F_o hf h0 ro_42 (j := 4) (by decide) (by decide)).trans mm18
                have mm26 := (th_F_o hf h0 ro_42 (j := 0) (by decide) (by decide)).trans mm19
                have mm27 := (th_F_o hf hb1 ro_32 (j := 0) (by decide) (by decide)).trans mm20
                have mm28 := (th_F_o hf h0 ro_42 (j := 11) (by decide) (by decide)).trans mb22
                have mm29 := (th_F_o hf h0 ro_42 (j := 9) (by decide) (by decide)).trans mb24
                have mu30 := th_bits_F hf mu21 (by decide)
                have tv_w_H103 : kv G Γ H103 (sh : Int) = kv G Γ H0 (sh : Int) := (kv_F hIo hB.1 hf (by decide)).trans tv_w_H81
                refine W.eq (g2 := F0 m 106 ls []) rfl ?_
                refine lv_aload_n hx hb dX11_halls_106 rfl (lv_at hl 2 rfl) ?_
                refine th_getK hC cf_X11 hB.1 h0 ro_42 rfl (j := 11) (by decide) mm28 kf_X11_79 dX11_halls_107 ?_
                refine lv_iconst (v := 1) hx hb dX11_halls_110 (by decide) ?_
                refine W.count (fun hc1 hc2 => ?_)
                have hIo := hB.1
                refine th_call (th_runV (As := [.int 1]) (rest := []) hC mf_X7_number km_X11_259 im_X7_number se_X7_number (c_X7_number l G Γ H103 hB.1 hR hU b22 hb22 1 ⟨_, z103_0, hb24⟩ ⟨_, z103_1, hsh⟩ u23 mu30) rfl rfl ⟨Nat.le_of_ble_eq_true rfl, Nat.le_of_ble_eq_true rfl⟩ hB.1 hb22 ro_27 rfl rfl hl.1 rfl (Nat.le_of_ble_eq_true rfl) dX11_halls_111 ⟨by dsimp only; omega, by dsimp only; omega⟩) hB.2.1 (fun v111 H111 locs hp hz hS => ?_)
                obtain ⟨x31, rfl, hI1, hf, hR, ⟨u111, hu111, ka111, kb111, kc111, kd111⟩⟩ := hp
                have hB := th_B_c hB hI1 hS hf (by decide)
                have mm32 := (th_F_o hf h0 ro_42 (j := 4) (by decide) (by decide)).trans mm25
                have mm33 := (th_F_o hf h0 ro_42 (j := 0) (by decide) (by decide)).trans mm26
                have mm34 := (th_F_o hf hb1 ro_32 (j := 0) (by decide) (by decide)).trans mm27
                have mm35 := (th_F_o hf h0 ro_42 (j := 11) (by decide) (by decide)).trans mm28
                have mm36 := (th_F_o hf h0 ro_42 (j := 9) (by decide) (by decide)).trans mm29
                have mm37 := (th_F_o hf hb22 ro_27 (j := 7) (by decide) (by decide)).trans z103_0
                have mm38 := (th_F_o hf hb22 ro_27 (j := 8) (by decide) (by decide)).trans z103_1
                have tv_w_H111 : kv G Γ H111 (sh : Int) = kv G Γ H0 (sh : Int) := (kv_F hIo hB.1 hf (by decide)).trans tv_w_H103
                have ku111 : th_pc u111 ≤ th_pc u0 ∧ th_pq u111 ≤ th_pq u0 := by omega
                refine W.tight (k := th_pc u0 - th_pc u111) (n := th_pq u0 - th_pq u111) (by omega) (by omega) ?_
                refine W.eq (g2 := F0 m 114 ls [.int x31]) rfl ?_
                refine tr_if_ne (tgt := 120) hx hb dX11_halls_114 (by decide) (Eq.refl _) (fun c114 => ?_) (fun c114 => ?_)
                · refine lv_iload_n hx hb dX11_halls_120 rfl (lv_at hl 4 rfl) ?_
                  refine lv_iload_n hx hb dX11_halls_121 rfl (lv_at hl 3 rfl) ?_
                  refine tr_icmp_ne (tgt := 134) hx hb dX11_halls_122 (by decide) (Eq.refl _) (Eq.refl _) (fun c122 => ?_) (fun c122 => ?_)
                  · refine tr_iincA (fun x39 => [(3, .int x39), (5, .int x7), (2, .int x3), (0, .ref a0), (1, .int p1), (4, .int j23_4)]) hx hb dX11_halls_134 hl (k := 4) rfl (by decide) (fun _ => rfl) (fun x39 ls hl => ?_)
                    have lx39 := ti_lo x39; have ux39 := ti_hi x39
                    exact jn137 H111 u111 locs ls x39 hB hR (lv_sub hl [2, 3, 4, 5, 0] rfl) tv_w_H111 hu111 ku111
                  · refine lv_bipush (v := 100) hx hb dX11_halls_125 (by decide) ?_
                    refine lv_iload hx hb dX11_halls_127 (lv_at hl 5 rfl) ?_
                    refine tr_imul hx hb dX11_halls_129 tk_100 (Eq.refl _) (by omega) (by omega) (fun x40 ex40 => ?_)
                    refine lv_iload hx hb dX11_halls_130 (lv_at hl 0 rfl) ?_
                    refine tr_iadd hx hb dX11_halls_132 (Eq.refl _) (Eq.refl _) (by omega) (by omega) (fun x41 ex41 => ?_)
                    refine W.count (fun hc1 hc2 => ?_)
                    rw [hH] at hc1 hc2
                    refine W.widen (k := th_pc u0) (n := th_pq u0) (Nat.sub_le _ _) (Nat.sub_le _ _) ?_
                    exact th_iret hC hH hr hlocks rfl hB.2.1 ⟨_, rfl, hB.1, hB.2.2, hR, tv_w_H111, ⟨u111, hu111, ku111.1, ku111.2, by omega, by omega⟩⟩ dX11_halls_133
                · refine lv_goto (tgt := 137) hx hb dX11_halls_117 (by decide) ?_
                  exact jn137 H111 u111 locs ls j23_3 hB hR (lv_sub hl [1, 2, 3, 5, 4] rfl) tv_w_H111 hu111 ku111
              · refine lv_goto (tgt := 137) hx hb dX11_halls_56 (by decide) ?_
                exact jn137 H23 u23 locs ls j23_3 hB hR (lv_sub hl [1, 2, 3, 5, 4] rfl) g23_2 g23_3 g23_4
    exact lp23 ((2147483648 : Int) - (1)).toNat H0 u0 locs ls 0 1 hB hR (lv_sub hl [2, 3, 4, 1, 0] rfl) (by decide) (by decide) rfl hu0 ku0 (by have w0 := tk_0; have w1 := tk_1; omega)
  · refine lv_iconst (v := (-1)) hx hb dX11_halls_5 (by decide) ?_
    refine W.count (fun hc1 hc2 => ?_)
    rw [hH] at hc1 hc2
    refine W.widen (k := th_pc u0) (n := th_pq u0) (Nat.sub_le _ _) (Nat.sub_le _ _) ?_
    exact th_iret hC hH hr hlocks rfl hB.2.1 ⟨_, rfl, hB.1, hB.2.2, hR, rfl, ⟨u0, hu0, ku0.1, ku0.2, by omega, by omega⟩⟩ dX11_halls_6

set_option maxHeartbeats 4000000 in
set_option maxRecDepth 100000 in
theorem c_X11_free_k (l : Launch) (G : th_G) (Γ : th_Ga) (H0 : Heap) (hI : th_I G Γ H0) (hR : th_RC G Γ H0) (hU : dv_U Γ) (a0 : Nat) (h0 : Γ a0 = (42, 0)) (sh : Nat) (hsh : Γ sh = (3, 0)) (msh : th_sl H0 a0 (G.1.2 11 4) = .ref sh) (u0 : Nat) (hu0 : th_bits G Γ H0 u0) : Met l yX11_free (.code yX11_free cX11_free 3 (some FieldType.int) :: th_tb) ({ frames := 16, cells := (th_pc u0), slots := (th_pq u0), locals := 451 } : Room) (th_P [.ref a0] G H0) (th_Q (fun (v : Option Value) (H1 : Heap) => ∃ r : Int32, v = some (.int r) ∧ th_I G Γ H1 ∧ th_F G Γ [(24, 0), (23, 3), (26, 0), (25, 0), (28, 0), (29, 0), (12, 0), (12, 1), (12, 2), (12, 3), (12, 4), (12, 5), (12, 6), (31, 0), (27, 5), (27, 6), (27, 7), (27, 8), (27, 9), (27, 10), (27, 11), (27, 12), (27, 13), (10, 0), (4, 0), (5, 0), (6, 0), (9, 0), (3, 7), (3, 8), (3, 9), (3, 10), (7, 0), (8, 0)] H0 H1 ∧ th_RC G Γ H1 ∧ (kv G Γ H1 (sh : Int) = kv G Γ H0 (sh : Int)) ∧ th_bp G Γ H0 H1 u0) G) (th_pc u0) (th_pq u0) (fun q => G.2.2 ≤ q) := by
  refine th_met RX11 (by decide) rfl (Nat.le_of_ble_eq_true rfl) ?_
  intro p e s m below meth c hC hH hr hlocks hnm ls hl
  have hx := hC.1
  have hb := hC.2.1
  have hB : th_B G Γ Γ [(24, 0), (23, 3), (26, 0), (25, 0), (28, 0), (29, 0), (12, 0), (12, 1), (12, 2), (12, 3), (12, 4), (12, 5), (12, 6), (31, 0), (27, 5), (27, 6), (27, 7), (27, 8), (27, 9), (27, 10), (27, 11), (27, 12), (27, 13), (10, 0), (4, 0), (5, 0), (6, 0), (9, 0), (3, 7), (3, 8), (3, 9), (3, 10), (7, 0), (8, 0)] H0 H0 [] := ⟨hI, va_S.rf, th_F_rf⟩
  have hl : lv_has ls 3 [(0, .ref a0)] := hl
  have ku0 : th_pc u0 ≤ th_pc u0 ∧ th_pq u0 ≤ th_pq u0 := ⟨Nat.le_refl _, Nat.le_refl _⟩
  refine W.widen (k := th_pc u0 - th_pc u0) (n := th_pq u0 - th_pq u0) (Nat.zero_le _) (Nat.zero_le _) ?_
  refine lv_iconst (v := 0) hx hb dX11_free_0 (by decide) ?_
  refine lv_istore_n (lv' := [(1, .int 0), (0, .ref a0)]) hx hb dX11_free_1 rfl hl (by decide) rfl (fun ls hl => ?_)
  refine lv_iconst (v := 0) hx hb dX11_free_2 (by decide) ?_
  refine lv_istore_n (lv' := [(2, .int 0), (1, .int 0), (0, .ref a0)]) hx hb dX11_free_3 rfl hl (by decide) rfl (fun ls hl => ?_)
  have lp4 : ∀ (n4 : Nat) (H4 : Heap) (u4 : Nat) (locs : List Loc) (ls : Array Slot) (j4_1 : Int32) (j4_2 : Int32), th_B G Γ Γ [(24, 0), (23, 3), (26, 0), (25, 0), (28, 0), (29, 0), (12, 0), (12, 1), (12, 2), (12, 3), (12, 4), (12, 5), (12, 6), (31, 0), (27, 5), (27, 6), (27, 7), (27, 8), (27, 9), (27, 10), (27, 11), (27, 12), (27, 13), (10, 0), (4, 0), (5, 0), (6, 0), (9, 0), (3, 7), (3, 8), (3, 9), (3, 10), (7, 0), (8, 0)] H0 H4 locs → th_RC G Γ H4 → lv_has ls 3 [(0, .ref a0), (1, .int j4_1), (2, .int j4_2)] → 0 ≤ j4_2.toInt → j4_2.toInt ≤ 9 → kv G Γ H4 (sh : Int) = kv G Γ H0 (sh : Int) → th_bits G Γ H4 u4 → (th_pc u4 ≤ th_pc u0 ∧ th_pq u4 ≤ th_pq u0) → (2147483648 : Int) - j4_2.toInt ≤ (n4 : Int) → W p l e ({ frames := 16, cells := (th_pc u0), slots := (th_pq u0), locals := 451 } : Room) s m ([.ref a0] : List Value).toArray below meth c H4 locs (th_pc u0 - th_pc u4) (th_pq u0 - th_pq u4) (MQ below (th_Q (fun (v : Option Value) (H1 : Heap) => ∃ r : Int32, v = some (.int r) ∧ th_I G Γ H1 ∧ th_F G Γ [(24, 0), (23, 3), (26, 0), (25, 0), (28, 0), (29, 0), (12, 0), (12, 1), (12, 2), (12, 3), (12, 4), (12, 5), (12, 6), (31, 0), (27, 5), (27, 6), (27, 7), (27, 8), (27, 9), (27, 10), (27, 11), (27, 12), (27, 13), (10, 0), (4, 0), (5, 0), (6, 0), (9, 0), (3, 7), (3, 8), (3, 9), (3, 10), (7, 0), (8, 0)] H0 H1 ∧ th_RC G Γ H1 ∧ (kv G Γ H1 (sh : Int) = kv G Γ H0 (sh : Int)) ∧ th_bp G Γ H0 H1 u0) G) ([.ref a0] : List Value).toArray s (th_pc u0) (th_pq u0) (fun q => G.2.2 ≤ q)) (F0 m 4 ls []) := by
    intro n4
    induction n4 with
    | zero => intro H4 u4 locs ls j4_1 j4_2 hB hR hl g4_0 g4_1 g4_2 g4_3 g4_4 hm4; exact absurd hm4 (by have := ti_hi j4_2; omega)
    | succ n4 ih4 =>
      intro H4 u4 locs ls j4_1 j4_2 hB hR hl g4_0 g4_1 g4_2 g4_3 g4_4 hm4
      have lj4_1 := ti_lo j4_1; have uj4_1 := ti_hi j4_1
      have lj4_2 := ti_lo j4_2; have uj4_2 := ti_hi j4_2
      have mm1 := (th_F_o hB.2.2 h0 ro_42 (j := 4) (by decide) (by decide)).trans msh
      have hm4 : (2147483648 : Int) - j4_2.toInt ≤ (n4 : Int) + 1 := by omega
      refine lv_iload_n hx hb dX11_free_4 rfl (lv_at hl 2 rfl) ?_
      refine lv_aload_n hx hb dX11_free_5 rfl (lv_at hl 0 rfl) ?_
      refine th_getR (j := 0) (r2 := 32) hC cf_X11 hB.1 h0 ro_42 rfl rfl kf_X11_12 dX11_free_6 (fun b2 mb2 hb2 => ?_)
      have sb2 := (th_F_o hB.2.2 h0 ro_42 (j := 0) (by decide) (by decide)).symm.trans mb2
      refine th_getR (j := 0) (r2 := 3) hC cf_X8 hB.1 hb2 ro_32 rfl rfl kf_X11_107 dX11_free_9 (fun b3 mb3 hb3 => ?_)
      have sb3 := (th_F_o hB.2.2 hb2 ro_32 (j := 0) (by decide) (by decide)).symm.trans mb3
      refine th_getI (j := 7) hC cf_X1 hB.1 hb3 ro_3 rfl rfl kf_X11_298 dX11_free_12 (fun x4 mx4 lx4 ux4 => ?_)
      refine tr_icmp_ge (tgt := 114) hx hb dX11_free_15 (by decide) (Eq.refl _) (Eq.refl _) (fun c15 => ?_) (fun c15 => ?_)
      · refine lv_iload_n hx hb dX11_free_114 rfl (lv_at hl 1 rfl) ?_
        refine W.count (fun hc1 hc2 => ?_)
        rw [hH] at hc1 hc2
        refine W.widen (k := th_pc u0) (n := th_pq u0) (Nat.sub_le _ _) (Nat.sub_le _ _) ?_
        exact th_iret hC hH hr hlocks rfl hB.2.1 ⟨_, rfl, hB.1, hB.2.2, hR, g4_2, ⟨u4, g4_3, g4_4.1, g4_4.2, by omega, by omega⟩⟩ dX11_free_115
      · refine lv_aload_n hx hb dX11_free_18 rfl (lv_at hl 0 rfl) ?_
        refine th_getK hC cf_X11 hB.1 h0 ro_42 rfl (j := 0) (by decide) mb2 kf_X11_12 dX11_free_19 ?_
        refine th_getK hC cf_X8 hB.1 hb2 ro_32 rfl (j := 0) (by decide) mb3 kf_X11_107 dX11_free_22 ?_
        refine lv_iload_n hx hb dX11_free_25 rfl (lv_at hl 2 rfl) ?_
        have hIo := hB.1
        refine th_call (th_runV (As := [.int j4_2]) (rest := []) hC mf_X1_isLaid km_X11_140 im_X1_isLaid se_X1_isLaid (c_X1_isLaid l G Γ H4 hB.1 hU b3 hb3 j4_2) rfl rfl ⟨Nat.le_of_ble_eq_true rfl, Nat.le_of_ble_eq_true rfl⟩ hB.1 hb3 ro_3 rfl rfl hl.1 rfl (Nat.le_of_ble_eq_true rfl) dX11_free_26 ⟨by dsimp only; omega, by dsimp only; omega⟩) hB.2.1 (fun v26 H26 locs hp hz hS => ?_)
        obtain ⟨x5, rfl, lx5, ux5, q26_0, q26_1, q26_2, rfl⟩ := hp
        have hB := th_B_s hB hS
        refine W.eq (g2 := F0 m 29 ls [.int x5]) rfl ?_
        have jn108 : ∀ (H108 : Heap) (u108 : Nat) (locs : List Loc) (ls : Array Slot) (j108_1 : Int32), th_B G Γ Γ [(24, 0), (23, 3), (26, 0), (25, 0), (28, 0), (29, 0), (12, 0), (12, 1), (12, 2), (12, 3), (12, 4), (12, 5), (12, 6), (31, 0), (27, 5), (27, 6), (27, 7), (27, 8), (27, 9), (27, 10), (27, 11), (27, 12), (27, 13), (10, 0), (4, 0), (5, 0), (6, 0), (9, 0), (3, 7), (3, 8), (3, 9), (3, 10), (7, 0), (8, 0)] H0 H108 locs → th_RC G Γ H108 → lv_has ls 3 [(0, .ref a0), (2, .int j4_2), (1, .int j108_1)] → kv G Γ H108 (sh : Int) = kv G Γ H0 (sh : Int) → th_bits G Γ H108 u108 → (th_pc u108 ≤ th_pc u0 ∧ th_pq u108 ≤ th_pq u0) → W p l e ({ frames := 16, cells := (th_pc u0), slots := (th_pq u0), locals := 451 } : Room) s m ([.ref a0] : List Value).toArray below meth c H108 locs (th_pc u0 - th_pc u108) (th_pq u0 - th_pq u108) (MQ below (th_Q (fun (v : Option Value) (H1 : Heap) => ∃ r : Int32, v = some (.int r) ∧ th_I G Γ H1 ∧ th_F G Γ [(24, 0), (23, 3), (26, 0), (25, 0), (28, 0), (29, 0), (12, 0), (12, 1), (12, 2), (12, 3), (12, 4), (12, 5), (12, 6), (31, 0), (27, 5), (27, 6), (27, 7), (27, 8), (27, 9), (27, 10), (27, 11), (27, 12), (27, 13), (10, 0), (4, 0), (5, 0), (6, 0), (9, 0), (3, 7), (3, 8), (3, 9), (3, 10), (7, 0), (8, 0)] H0 H1 ∧ th_RC G Γ H1 ∧ (kv G Γ H1 (sh : Int) = kv G Γ H0 (sh : Int)) ∧ th_bp G Γ H0 H1 u0) G) ([.ref a0] : List Value).toArray s (th_pc u0) (th_pq u0) (fun q => G.2.2 ≤ q)) (F0 m 108 ls []) := by
          intro H108 u108 locs ls j108_1 hB hR hl g108_0 g108_1 g108_2
          have lj108_1 := ti_lo j108_1; have uj108_1 := ti_hi j108_1
          have mm6 := (th_F_o hB.2.2 h0 ro_42 (j := 4) (by decide) (by decide)).trans msh
          have mm7 := (th_F_o hB.2.2 h0 ro_42 (j := 0) (by decide) (by decide)).trans sb2
          have mm8 := (th_F_o hB.2.2 hb2 ro_32 (j := 0) (by decide) (by decide)).trans sb3
          refine tr_iinc (fun x9 => [(2, .int x9), (0, .ref a0), (1, .int j108_1)]) hx hb dX11_free_108 hl (k := 1) rfl (Eq.refl _) tk_1 (by omega) (by omega) (by decide) (fun _ => rfl) (fun x9 ls ex9 hl => ?_)
          refine lv_goto (tgt := 4) hx hb dX11_free_111 (by decide) ?_
          exact ih4 H108 u108 locs ls j108_1 x9 hB hR (lv_sub hl [1, 2, 0] rfl) (by omega) (by omega) g108_0 g108_1 g108_2 (by omega)
        refine tr_if_ne (tgt := 35) hx hb dX11_free_29 (by decide) (Eq.refl _) (fun c29 => ?_) (fun c29 => ?_)
        · refine lv_aload_n hx hb dX11_free_35 rfl (lv_at hl 0 rfl) ?_
          refine th_getK hC cf_X11 hB.1 h0 ro_42 rfl (j := 4) (by decide) mm1 kf_X11_31 dX11_free_36 ?_
          refine lv_aload_n hx hb dX11_free_39 rfl (lv_at hl 0 rfl) ?_
          refine th_getK hC cf_X11 hB.1 h0 ro_42 rfl (j := 0) (by decide) mb2 kf_X11_12 dX11_free_40 ?_
          refine th_getK hC cf_X8 hB.1 hb2 ro_32 rfl (j := 0) (by decide) mb3 kf_X11_107 dX11_free_43 ?_
          have hIo := hB.1
          refine th_call (th_runV (As := [.ref b3]) (rest := []) hC mf_X1_copyFrom km_X11_275 im_X1_copyFrom se_X1_copyFrom (c_X1_copyFrom l G Γ H4 hB.1 hR hU sh hsh b3 hb3) rfl rfl ⟨Nat.le_of_ble_eq_true rfl, Nat.le_of_ble_eq_true rfl⟩ hB.1 hsh ro_3 rfl rfl hl.1 rfl (Nat.le_of_ble_eq_true rfl) dX11_free_46 ⟨by dsimp only; omega, by dsimp only; omega⟩) hB.2.1 (fun v46 H46 locs hp hz hS => ?_)
          obtain ⟨rfl, hI1, hf, hR, z46_0⟩ := hp
          have hB := th_B_c hB hI1 hS hf (by decide)
          have mm10 := (th_F_o hf h0 ro_42 (j := 4) (by decide) (by decide)).trans mm1
          have mm11 := (th_F_o hf h0 ro_42 (j := 0) (by decide) (by decide)).trans mb2
          have mm12 := (th_F_o hf hb2 ro_32 (j := 0) (by decide) (by decide)).trans mb3
          have mu13 := th_bits_F hf g4_3 (by decide)
          have tv_w_H46 : kv G Γ H46 (sh : Int) = kv G Γ H0 (sh : Int) := (kv_c (bo_copy z46_0)).trans g4_2
          refine W.eq (g2 := F0 m 49 ls []) rfl ?_
          refine lv_aload_n hx hb dX11_free_49 rfl (lv_at hl 0 rfl) ?_
          refine th_getK hC cf_X11 hB.1 h0 ro_42 rfl (j := 4) (by decide) mm10 kf_X11_31 dX11_free_50 ?_
          refine lv_iload_n hx hb dX11_free_53 rfl (lv_at hl 2 rfl) ?_
          have hIo := hB.1
          refine th_call (th_runV (As := [.int j4_2]) (rest := []) hC mf_X1_rollUp km_X11_301 im_X1_rollUp se_X1_rollUp (c_X1_rollUp l G Γ H46 hB.1 hR hU sh hsh j4_2) rfl rfl ⟨Nat.le_of_ble_eq_true rfl, Nat.le_of_ble_eq_true rfl⟩ hB.1 hsh ro_3 rfl rfl hl.1 rfl (Nat.le_of_ble_eq_true rfl) dX11_free_54 ⟨by dsimp only; omega, by dsimp only; omega⟩) hB.2.1 (fun v54 H54 locs hp hz hS => ?_)
          obtain ⟨rfl, hI1, hf, hR, z54_0⟩ := hp
          have hB := th_B_c hB hI1 hS hf (by decide)
          have mm14 := (th_F_o hf h0 ro_42 (j := 4) (by decide) (by decide)).trans mm10
          have mm15 := (th_F_o hf h0 ro_42 (j := 0) (by decide) (by decide)).trans mm11
          have mm16 := (th_F_o hf hb2 ro_32 (j := 0) (by decide) (by decide)).trans mm12
          have mu17 := th_bits_F hf mu13 (by decide)
          have tv_w_H54 : kv G Γ H54 (sh : Int) = kv G Γ H0 (sh : Int) := (kv_c (bo_roll z54_0)).trans tv_w_H46
          refine W.eq (g2 := F0 m 57 ls []) rfl ?_
          refine lv_aload_n hx hb dX11_free_57 rfl (lv_at hl 0 rfl) ?_
          refine th_getR (j := 11) (r2 := 27) hC cf_X11 hB.1 h0 ro_42 rfl rfl kf_X11_79 dX11_free_58 (fun b18 mb18 hb18 => ?_)
          have sb18 := (th_F_o hB.2.2 h0 ro_42 (j := 11) (by decide) (by decide)).symm.trans mb18
          refine lv_aload_n hx hb dX11_free_61 rfl (lv_at hl 0 rfl) ?_
          refine th_getK hC cf_X11 hB.1 h0 ro_42 rfl (j := 4) (by decide) mm14 kf_X11_31 dX11_free_62 ?_
          refine lv_aload_n hx hb dX11_free_65 rfl (lv_at hl 0 rfl) ?_
          refine th_getK hC cf_X11 hB.1 h0 ro_42 rfl (j := 0) (by decide) mm15 kf_X11_12 dX11_free_66 ?_
          have hIo := hB.1
          refine th_call (th_runV (As := []) (rest := [.ref sh, .ref b18]) hC mf_X8_forcedLaw km_X11_143 im_X8_forcedLaw se_X8_forcedLaw (c_X8_forcedLaw l G Γ H54 hB.1 hU b2 hb2) rfl rfl ⟨Nat.le_of_ble_eq_true rfl, Nat.le_of_ble_eq_true rfl⟩ hB.1 hb2 ro_32 rfl rfl hl.1 rfl (Nat.le_of_ble_eq_true rfl) dX11_free_69 ⟨by dsimp only; omega, by dsimp only; omega⟩) hB.2.1 (fun v69 H69 locs hp hz hS => ?_)
          obtain ⟨v19, rfl, hv19, q69_0, rfl⟩ := hp
          have hB := th_B_s hB hS
          refine W.eq (g2 := F0 m 72 ls [v19, .ref sh, .ref b18]) rfl ?_
          refine lv_aload_n hx hb dX11_free_72 rfl (lv_at hl 0 rfl) ?_
          refine th_getR (j := 9) (r2 := 11) hC cf_X11 hB.1 h0 ro_42 rfl rfl kf_X11_65 dX11_free_73 (fun b20 mb20 hb20 => ?_)
          have sb20 := (th_F_o hB.2.2 h0 ro_42 (j := 9) (by decide) (by decide)).symm.trans mb20
          have hIo := hB.1
          refine th_call (th_runV (As := [.ref sh, v19, .ref b20]) (rest := []) hC mf_X7_prepare km_X11_255 im_X7_prepare se_X7_prepare (c_X7_prepare l G Γ H54 hB.1 hR hU b18 hb18 sh hsh v19 hv19 b20 hb20) rfl rfl ⟨Nat.le_of_ble_eq_true rfl, Nat.le_of_ble_eq_true rfl⟩ hB.1 hb18 ro_27 rfl rfl hl.1 rfl (Nat.le_of_ble_eq_true rfl) dX11_free_76 ⟨by dsimp only; omega, by dsimp only; omega⟩) hB.2.1 (fun v76 H76 locs hp hz hS => ?_)
          obtain ⟨rfl, hI1, hf, hR, z76_0, z76_1⟩ := hp
          have hB := th_B_c hB hI1 hS hf (by decide)
          have mm21 := (th_F_o hf h0 ro_42 (j := 4) (by decide) (by decide)).trans mm14
          have mm22 := (th_F_o hf h0 ro_42 (j := 0) (by decide) (by decide)).trans mm15
          have mm23 := (th_F_o hf hb2 ro_32 (j := 0) (by decide) (by decide)).trans mm16
          have mm24 := (th_F_o hf h0 ro_42 (j := 11) (by decide) (by decide)).trans mb18
          have mm25 := (th_F_o hf h0 ro_42 (j := 9) (by decide) (by decide)).trans mb20
          have mu26 := th_bits_F hf mu17 (by decide)
          have tv_w_H76 : kv G Γ H76 (sh : Int) = kv G Γ H0 (sh : Int) := (kv_F hIo hB.1 hf (by decide)).trans tv_w_H54
          refine W.eq (g2 := F0 m 79 ls []) rfl ?_
          refine lv_aload_n hx hb dX11_free_79 rfl (lv_at hl 0 rfl) ?_
          refine th_getK hC cf_X11 hB.1 h0 ro_42 rfl (j := 11) (by decide) mm24 kf_X11_79 dX11_free_80 ?_
          refine lv_iconst (v := 2) hx hb dX11_free_83 (by decide) ?_
          refine W.count (fun hc1 hc2 => ?_)
          have hIo := hB.1
          refine th_call (th_runV (As := [.int 2]) (rest := []) hC mf_X7_number km_X11_259 im_X7_number se_X7_number (c_X7_number l G Γ H76 hB.1 hR hU b18 hb18 2 ⟨_, z76_0, hb20⟩ ⟨_, z76_1, hsh⟩ u4 mu26) rfl rfl ⟨Nat.le_of_ble_eq_true rfl, Nat.le_of_ble_eq_true rfl⟩ hB.1 hb18 ro_27 rfl rfl hl.1 rfl (Nat.le_of_ble_eq_true rfl) dX11_free_84 ⟨by dsimp only; omega, by dsimp only; omega⟩) hB.2.1 (fun v84 H84 locs hp hz hS => ?_)
          obtain ⟨x27, rfl, hI1, hf, hR, ⟨u84, hu84, ka84, kb84, kc84, kd84⟩⟩ := hp
          have hB := th_B_c hB hI1 hS hf (by decide)
          have mm28 := (th_F_o hf h0 ro_42 (j := 4) (by decide) (by decide)).trans mm21
          have mm29 := (th_F_o hf h0 ro_42 (j := 0) (by decide) (by decide)).trans mm22
          have mm30 := (th_F_o hf hb2 ro_32 (j := 0) (by decide) (by decide)).trans mm23
          have mm31 := (th_F_o hf h0 ro_42 (j := 11) (by decide) (by decide)).trans mm24
          have mm32 := (th_F_o hf h0 ro_42 (j := 9) (by decide) (by decide)).trans mm25
          have mm33 := (th_F_o hf hb18 ro_27 (j := 7) (by decide) (by decide)).trans z76_0
          have mm34 := (th_F_o hf hb18 ro_27 (j := 8) (by decide) (by decide)).trans z76_1
          have tv_w_H84 : kv G Γ H84 (sh : Int) = kv G Γ H0 (sh : Int) := (kv_F hIo hB.1 hf (by decide)).trans tv_w_H76
          have ku84 : th_pc u84 ≤ th_pc u0 ∧ th_pq u84 ≤ th_pq u0 := by omega
          refine W.tight (k := th_pc u0 - th_pc u84) (n := th_pq u0 - th_pq u84) (by omega) (by omega) ?_
          refine W.eq (g2 := F0 m 87 ls [.int x27]) rfl ?_
          refine lv_iconst (v := 1) hx hb dX11_free_87 (by decide) ?_
          refine tr_icmp_ne (tgt := 108) hx hb dX11_free_88 (by decide) (Eq.refl _) tk_1 (fun c88 => ?_) (fun c88 => ?_)
          · exact jn108 H84 u84 locs ls j4_1 hB hR (lv_sub hl [0, 2, 1] rfl) tv_w_H84 hu84 ku84
          · refine lv_aload_n hx hb dX11_free_91 rfl (lv_at hl 0 rfl) ?_
            refine th_getK hC cf_X11 hB.1 h0 ro_42 rfl (j := 11) (by decide) mm31 kf_X11_79 dX11_free_92 ?_
            refine lv_iload_n hx hb dX11_free_95 rfl (lv_at hl 2 rfl) ?_
            have hIo := hB.1
            refine th_call (th_runV (As := [.int j4_2]) (rest := []) hC mf_X7_fillsAlone km_X11_304 im_X7_fillsAlone se_X7_fillsAlone (c_X7_fillsAlone l G Γ H84 hB.1 hR hU b18 hb18 j4_2 (by omega) (by omega) ⟨_, mm33, hb20⟩ ⟨_, mm34, hsh⟩) rfl rfl ⟨Nat.le_of_ble_eq_true rfl, Nat.le_of_ble_eq_true rfl⟩ hB.1 hb18 ro_27 rfl rfl hl.1 rfl (Nat.le_of_ble_eq_true rfl) dX11_free_96 ⟨by dsimp only; omega, by dsimp only; omega⟩) hB.2.1 (fun v96 H96 locs hp hz hS => ?_)
            obtain ⟨x35, rfl, lx35, ux35, hI1, hf, hR⟩ := hp
            have hB := th_B_c hB hI1 hS hf (by decide)
            have mm36 := (th_F_o hf h0 ro_42 (j := 4) (by decide) (by decide)).trans mm28
            have mm37 := (th_F_o hf h0 ro_42 (j := 0) (by decide) (by decide)).trans mm29
            have mm38 := (th_F_o hf hb2 ro_32 (j := 0) (by decide) (by decide)).trans mm30
            have mm39 := (th_F_o hf h0 ro_42 (j := 11) (by decide) (by decide)).trans mm31
            have mm40 := (th_F_o hf h0 ro_42 (j := 9) (by decide) (by decide)).trans mm32
            have mm41 := (th_F_o hf hb18 ro_27 (j := 7) (by decide) (by decide)).trans mm33
            have mm42 := (th_F_o hf hb18 ro_27 (j := 8) (by decide) (by decide)).trans mm34
            have mu43 := th_bits_F hf hu84 (by decide)
            have tv_w_H96 : kv G Γ H96 (sh : Int) = kv G Γ H0 (sh : Int) := (kv_F hIo hB.1 hf (by decide)).trans tv_w_H84
            refine W.eq (g2 := F0 m 99 ls [.int x35]) rfl ?_
            refine tr_if_ne (tgt := 108) hx hb dX11_free_99 (by decide) (Eq.refl _) (fun c99 => ?_) (fun c99 => ?_)
            · exact jn108 H96 u84 locs ls j4_1 hB hR (lv_sub hl [0, 2, 1] rfl) tv_w_H96 mu43 ku84
            · refine lv_iload_n hx hb dX11_free_102 rfl (lv_at hl 1 rfl) ?_
              refine lv_iconst (v := 1) hx hb dX11_free_103 (by decide) ?_
              refine lv_iload_n hx hb dX11_free_104 rfl (lv_at hl 2 rfl) ?_
              refine lv_ishl hx hb dX11_free_105 ?_
              refine lv_topi (fun x44 ex44 => ?_)
              have lx44 := ti_lo x44; have ux44 := ti_hi x44
              refine lv_ior hx hb dX11_free_106 ?_
              refine lv_topi (fun x45 ex45 => ?_)
              have lx45 := ti_lo x45; have ux45 := ti_hi x45
              refine lv_istore_n (lv' := [(1, .int x45), (0, .ref a0), (2, .int j4_2)]) hx hb dX11_free_107 rfl hl (by decide) rfl (fun ls hl => ?_)
              exact jn108 H96 u84 locs ls x45 hB hR (lv_sub hl [1, 2, 0] rfl) tv_w_H96 mu43 ku84
        · refine lv_goto (tgt := 108) hx hb dX11_free_32 (by decide) ?_
          exact jn108 H4 u4 locs ls j4_1 hB hR (lv_sub hl [0, 2, 1] rfl) g4_2 g4_3 g4_4
  exact lp4 ((2147483648 : Int) - (0)).toNat H0 u0 [] ls 0 0 hB hR (lv_sub hl [2, 1, 0] rfl) (by decide) (by decide) rfl hu0 ku0 (by have w0 := tk_0; omega)

