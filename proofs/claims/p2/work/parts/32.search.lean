def th_fit (G : th_G) (Γ : th_Ga) (H : Heap) (a : Nat) (c q : Int32) : Prop := ∃ (fb b o : Nat) (v : Int32), th_sl H a (G.1.2 7 8) = .ref fb ∧ Γ fb = (3, 0) ∧ th_sl H fb (G.1.2 1 0) = .ref b ∧ Γ b = (4, o) ∧ th_sl H b c.toInt.toNat = .int v ∧ q.toInt % 12 + v.toInt ≤ 12 ∧ q.toInt / 12 + v.toInt ≤ 12
theorem th_fit_F {G : th_G} {Γ : th_Ga} {L : List (Nat × Nat)} {H H1 : Heap} {a : Nat} {c q : Int32} (h : th_fit G Γ H a c q) (ha : Γ a = (27, 0)) (hF : th_F G Γ L H H1) (hL : th_in L 27 8 = false ∧ th_in L 3 0 = false ∧ th_in L 4 0 = false) : th_fit G Γ H1 a c q := by
  obtain ⟨fb, b, o, v, e1, e2, e3, e4, e5, e6⟩ := h
  exact ⟨fb, b, o, v, (th_F_o hF ha ro_27 (j := 8) (by decide) hL.1).trans e1, e2, (th_F_o hF e2 ro_3 (j := 0) (by decide) hL.2.1).trans e3, e4, (th_F_a hF e4 ro_4 hL.2.2 _).trans e5, e6⟩
theorem th_fit_at {G : th_G} {Γ : th_Ga} {H : Heap} {a fb b : Nat} {c q v : Int32} (h : th_fit G Γ H a c q) (e1 : th_sl H a (G.1.2 7 8) = .ref fb) (e3 : th_sl H fb (G.1.2 1 0) = .ref b) (e5 : th_sl H b c.toInt.toNat = .int v) : q.toInt % 12 + v.toInt ≤ 12 ∧ q.toInt / 12 + v.toInt ≤ 12 := by
  obtain ⟨fb', b', o, v', d1, d2, d3, d4, d5, d6⟩ := h
  rw [e1] at d1; cases d1
  rw [e3] at d3; cases d3
  rw [e5] at d5; cases d5
  exact d6
set_option maxHeartbeats 4000000 in
set_option maxRecDepth 100000 in
theorem c_X7_fits (l : Launch) (G : th_G) (Γ : th_Ga) (H0 : Heap) (hI : th_I G Γ H0) (hU : dv_U Γ) (a0 : Nat) (h0 : Γ a0 = (27, 0)) (p1 : Int64) (p2 : Int32) (p3 : Int32) (f3 : (-1) ≤ p3.toInt) (g3 : p3.toInt ≤ 143) (nn8 : ∃ b : Nat, th_sl H0 a0 (G.1.2 7 8) = .ref b ∧ Γ b = (3, 0)) : Met l yX7_fits (.code yX7_fits cX7_fits 10 (some FieldType.boolean) :: th_tb) ({ frames := 2, cells := 0, slots := 0, locals := 42 } : Room) (th_P [.ref a0, .long p1, .int p2, .int p3] G H0) (th_Q (fun (v : Option Value) (H1 : Heap) => ∃ r : Int32, v = some (.int r) ∧ 0 ≤ r.toInt ∧ r.toInt ≤ 1 ∧ (r.toInt = 1 → 0 ≤ p2.toInt ∧ p2.toInt ≤ 8) ∧ (r.toInt = 1 → 0 ≤ p3.toInt) ∧ (r.toInt = 1 → th_fit G Γ H0 a0 p2 p3) ∧ H0 = H1) G) 0 0 (fun q => G.2.2 ≤ q) := by
  refine th_met RX7 (by decide) rfl (Nat.le_of_ble_eq_true rfl) ?_
  intro p e s m below meth c hC hH hr hlocks hnm ls hl
  have hx := hC.1
  have hb := hC.2.1
  have hB : th_B G Γ Γ [] H0 H0 [] := ⟨hI, va_S.rf, th_F_rf⟩
  have hl : lv_has ls 10 [(0, .ref a0), (1, .long p1), (3, .int p2), (4, .int p3)] := hl
  have lp2 := ti_lo p2; have up2 := ti_hi p2
  have lp3 := ti_lo p3; have up3 := ti_hi p3
  obtain ⟨bn8, mbn8, hbn8⟩ := nn8
  refine lv_iload hx hb dX7_fits_0 (lv_at hl 3 rfl) ?_
  refine tr_if_lt (tgt := 29) hx hb dX7_fits_2 (by decide) (Eq.refl _) (fun c2 => ?_) (fun c2 => ?_)
  · refine lv_iconst (v := 0) hx hb dX7_fits_29 (by decide) ?_
    exact th_iret hC hH hr hlocks narrow_b0 hB.2.1 ⟨_, rfl, by decide, by decide, by first | (intro h9; exact absurd h9 (by decide)) | (have w9 := tk_0; intros; omega), by first | (intro h9; exact absurd h9 (by decide)) | (have w9 := tk_0; intros; omega), by first | (intro h9; exact absurd h9 (by decide)) | (intro _; exact ⟨_, _, _, _, mbn8, hbn8, mb6, hb6, mx7, by omega, by omega⟩), rfl⟩ dX7_fits_30
  · refine lv_aload_n hx hb dX7_fits_5 rfl (lv_at hl 0 rfl) ?_
    refine th_getK hC cf_X7 hB.1 h0 ro_27 rfl (j := 8) (by decide) mbn8 kf_X7_38 dX7_fits_6 ?_
    refine lv_iload_n hx hb dX7_fits_9 rfl (lv_at hl 2 rfl) ?_
    refine th_call (th_runV (As := [.int p2]) (rest := []) hC mf_X1_isReady km_X7_141 im_X1_isReady se_X1_isReady (c_X1_isReady l G Γ H0 hB.1 hU bn8 hbn8 p2) rfl rfl ⟨Nat.le_of_ble_eq_true rfl, Nat.le_of_ble_eq_true rfl⟩ hB.1 hbn8 ro_3 rfl rfl hl.1 rfl (Nat.le_of_ble_eq_true rfl) dX7_fits_10 ⟨Nat.le_refl _, Nat.le_refl _⟩) hB.2.1 (fun v10 H10 locs hp hz hS => ?_)
    obtain ⟨x1, rfl, lx1, ux1, q10_0, q10_1, rfl⟩ := hp
    have hB := th_B_s hB hS
    refine W.eq (g2 := F0 m 13 ls [.int x1]) rfl ?_
    refine tr_if_eq (tgt := 29) hx hb dX7_fits_13 (by decide) (Eq.refl _) (fun c13 => ?_) (fun c13 => ?_)
    · refine lv_iconst (v := 0) hx hb dX7_fits_29 (by decide) ?_
      exact th_iret hC hH hr hlocks narrow_b0 hB.2.1 ⟨_, rfl, by decide, by decide, by first | (intro h9; exact absurd h9 (by decide)) | (have w9 := tk_0; intros; omega), by first | (intro h9; exact absurd h9 (by decide)) | (have w9 := tk_0; intros; omega), by first | (intro h9; exact absurd h9 (by decide)) | (intro _; exact ⟨_, _, _, _, mbn8, hbn8, mb6, hb6, mx7, by omega, by omega⟩), rfl⟩ dX7_fits_30
    · refine lv_lload_n hx hb dX7_fits_16 rfl (lv_at hl 1 rfl) ?_
      refine lv_bipush (v := 48) hx hb dX7_fits_17 (by decide) ?_
      refine lv_iload_n hx hb dX7_fits_19 rfl (lv_at hl 2 rfl) ?_
      refine lv_iadd hx hb dX7_fits_20 ?_
      refine lv_topi (fun x2 ex2 => ?_)
      have lx2 := ti_lo x2; have ux2 := ti_hi x2
      refine lv_lushr hx hb dX7_fits_21 rfl ?_
      refine lv_topl (fun y3 ey3 => ?_)
      refine lv_lconst (v := 1) hx hb dX7_fits_22 rfl ?_
      refine lv_land hx hb dX7_fits_23 ?_
      refine lv_topl (fun y4 ey4 => ?_)
      refine lv_lconst (v := 0) hx hb dX7_fits_24 rfl ?_
      refine tr_lcmp hx hb dX7_fits_25 (fun x5 fx5 gx5 => ?_)
      refine tr_if_eq (tgt := 31) hx hb dX7_fits_26 (by decide) (Eq.refl _) (fun c26 => ?_) (fun c26 => ?_)
      · refine lv_aload_n hx hb dX7_fits_31 rfl (lv_at hl 0 rfl) ?_
        refine th_getK hC cf_X7 hB.1 h0 ro_27 rfl (j := 8) (by decide) mbn8 kf_X7_38 dX7_fits_32 ?_
        refine th_getO (j := 0) (r2 := 4) hC cf_X1 hB.1 hbn8 ro_3 rfl rfl kf_X7_87 dX7_fits_35 (fun b6 mb6 hb6 => ?_)
        refine lv_iload_n hx hb dX7_fits_38 rfl (lv_at hl 2 rfl) ?_
        refine th_ialdF hC hB.1 hb6 ro_4 rfl (Eq.refl _) (by omega) (by omega) rfl dX7_fits_39 (fun x7 mx7 lx7 ux7 => ?_)
        refine lv_istore (lv' := [(5, .int x7), (0, .ref a0), (1, .long p1), (3, .int p2), (4, .int p3)]) hx hb dX7_fits_40 hl (by decide) rfl (fun ls hl => ?_)
        refine lv_iload hx hb dX7_fits_42 (lv_at hl 4 rfl) ?_
        refine lv_bipush (v := 12) hx hb dX7_fits_44 (by decide) ?_
        refine tr_irem hx hb dX7_fits_46 (Eq.refl _) tk_12 (by omega) (by omega) (fun x8 ex8 => ?_)
        refine lv_istore (lv' := [(6, .int x8), (5, .int x7), (0, .ref a0), (1, .long p1), (3, .int p2), (4, .int p3)]) hx hb dX7_fits_47 hl (by decide) rfl (fun ls hl => ?_)
        refine lv_iload hx hb dX7_fits_49 (lv_at hl 5 rfl) ?_
        refine lv_bipush (v := 12) hx hb dX7_fits_51 (by decide) ?_
        refine tr_idiv hx hb dX7_fits_53 (Eq.refl _) tk_12 (by omega) (by omega) (fun x9 ex9 => ?_)
        refine lv_istore (lv' := [(7, .int x9), (6, .int x8), (5, .int x7), (0, .ref a0), (1, .long p1), (3, .int p2), (4, .int p3)]) hx hb dX7_fits_54 hl (by decide) rfl (fun ls hl => ?_)
        refine lv_iload hx hb dX7_fits_56 (lv_at hl 1 rfl) ?_
        refine lv_iload hx hb dX7_fits_58 (lv_at hl 2 rfl) ?_
        refine tr_iadd hx hb dX7_fits_60 (Eq.refl _) (Eq.refl _) (by omega) (by omega) (fun x10 ex10 => ?_)
        refine lv_aload_n hx hb dX7_fits_61 rfl (lv_at hl 3 rfl) ?_
        refine th_getK hC cf_X7 hB.1 h0 ro_27 rfl (j := 8) (by decide) mbn8 kf_X7_38 dX7_fits_62 ?_
        refine th_getI (j := 8) hC cf_X1 hB.1 hbn8 ro_3 rfl rfl kf_X7_74 dX7_fits_65 (fun x11 mx11 lx11 ux11 => ?_)
        refine tr_icmp_gt (tgt := 86) hx hb dX7_fits_68 (by decide) (Eq.refl _) (Eq.refl _) (fun c68 => ?_) (fun c68 => ?_)
        · refine lv_iconst (v := 0) hx hb dX7_fits_86 (by decide) ?_
          exact th_iret hC hH hr hlocks narrow_b0 hB.2.1 ⟨_, rfl, by decide, by decide, by first | (intro h9; exact absurd h9 (by decide)) | (have w9 := tk_0; intros; omega), by first | (intro h9; exact absurd h9 (by decide)) | (have w9 := tk_0; intros; omega), by first | (intro h9; exact absurd h9 (by decide)) | (intro _; exact ⟨_, _, _, _, mbn8, hbn8, mb6, hb6, mx7, by omega, by omega⟩), rfl⟩ dX7_fits_87
        · refine lv_iload hx hb dX7_fits_71 (lv_at hl 0 rfl) ?_
          refine lv_iload hx hb dX7_fits_73 (lv_at hl 2 rfl) ?_
          refine tr_iadd hx hb dX7_fits_75 (Eq.refl _) (Eq.refl _) (by omega) (by omega) (fun x12 ex12 => ?_)
          refine lv_aload_n hx hb dX7_fits_76 rfl (lv_at hl 3 rfl) ?_
          refine th_getK hC cf_X7 hB.1 h0 ro_27 rfl (j := 8) (by decide) mbn8 kf_X7_38 dX7_fits_77 ?_
          refine th_getI (j := 9) hC cf_X1 hB.1 hbn8 ro_3 rfl rfl kf_X7_80 dX7_fits_80 (fun x13 mx13 lx13 ux13 => ?_)
          refine tr_icmp_le (tgt := 88) hx hb dX7_fits_83 (by decide) (Eq.refl _) (Eq.refl _) (fun c83 => ?_) (fun c83 => ?_)
          · refine lv_iconst (v := 1) hx hb dX7_fits_88 (by decide) ?_
            refine lv_iload hx hb dX7_fits_89 (lv_at hl 2 rfl) ?_
            refine lv_ishl hx hb dX7_fits_91 ?_
            refine lv_topi (fun x14 ex14 => ?_)
            have lx14 := ti_lo x14; have ux14 := ti_hi x14
            refine lv_iconst (v := 1) hx hb dX7_fits_92 (by decide) ?_
            refine lv_isub hx hb dX7_fits_93 ?_
            refine lv_topi (fun x15 ex15 => ?_)
            have lx15 := ti_lo x15; have ux15 := ti_hi x15
            refine lv_istore (lv' := [(8, .int x15), (7, .int x9), (6, .int x8), (5, .int x7), (0, .ref a0), (1, .long p1), (3, .int p2), (4, .int p3)]) hx hb dX7_fits_94 hl (by decide) rfl (fun ls hl => ?_)
            refine lv_iconst (v := 0) hx hb dX7_fits_96 (by decide) ?_
            refine lv_istore (lv' := [(9, .int 0), (8, .int x15), (7, .int x9), (6, .int x8), (5, .int x7), (0, .ref a0), (1, .long p1), (3, .int p2), (4, .int p3)]) hx hb dX7_fits_97 hl (by decide) rfl (fun ls hl => ?_)
            have lp99 : ∀ (n99 : Nat) (locs : List Loc) (ls : Array Slot) (j99_9 : Int32), th_B G Γ Γ [] H0 H0 locs → lv_has ls 10 [(8, .int x15), (7, .int x9), (6, .int x8), (5, .int x7), (0, .ref a0), (1, .long p1), (9, .int j99_9)] → 0 ≤ j99_9.toInt → j99_9.toInt ≤ 12 → (2147483648 : Int) - j99_9.toInt ≤ (n99 : Int) → W p l e ({ frames := 2, cells := 0, slots := 0, locals := 42 } : Room) s m ([.ref a0, .long p1, .int p2, .int p3] : List Value).toArray below meth c H0 locs 0 0 (MQ below (th_Q (fun (v : Option Value) (H1 : Heap) => ∃ r : Int32, v = some (.int r) ∧ 0 ≤ r.toInt ∧ r.toInt ≤ 1 ∧ (r.toInt = 1 → 0 ≤ p2.toInt ∧ p2.toInt ≤ 8) ∧ (r.toInt = 1 → 0 ≤ p3.toInt) ∧ (r.toInt = 1 → th_fit G Γ H0 a0 p2 p3) ∧ H0 = H1) G) ([.ref a0, .long p1, .int p2, .int p3] : List Value).toArray s 0 0 (fun q => G.2.2 ≤ q)) (F0 m 99 ls []) := by
              intro n99
              induction n99 with
              | zero => intro locs ls j99_9 hB hl g99_0 g99_1 hm99; exact absurd hm99 (by have := ti_hi j99_9; omega)
              | succ n99 ih99 =>
                intro locs ls j99_9 hB hl g99_0 g99_1 hm99
                have lj99_9 := ti_lo j99_9; have uj99_9 := ti_hi j99_9
                have hm99 : (2147483648 : Int) - j99_9.toInt ≤ (n99 : Int) + 1 := by omega
                refine lv_iload hx hb dX7_fits_99 (lv_at hl 6 rfl) ?_
                refine lv_iload hx hb dX7_fits_101 (lv_at hl 3 rfl) ?_
                refine tr_icmp_ge (tgt := 156) hx hb dX7_fits_103 (by decide) (Eq.refl _) (Eq.refl _) (fun c103 => ?_) (fun c103 => ?_)
                · refine lv_aload_n hx hb dX7_fits_156 rfl (lv_at hl 4 rfl) ?_
                  refine lv_iload hx hb dX7_fits_157 (lv_at hl 3 rfl) ?_
                  refine lv_iload hx hb dX7_fits_159 (lv_at hl 2 rfl) ?_
                  refine lv_iload hx hb dX7_fits_161 (lv_at hl 1 rfl) ?_
                  refine th_call (th_runV (As := [.int x7, .int x8, .int x9]) (rest := []) hC mf_X7_agreesWithSeen km_X7_172 im_X7_agreesWithSeen se_X7_agreesWithSeen (c_X7_agreesWithSeen l G Γ H0 hB.1 hU a0 h0 x7 x8 x9) rfl rfl ⟨Nat.le_of_ble_eq_true rfl, Nat.le_of_ble_eq_true rfl⟩ hB.1 h0 ro_27 rfl rfl hl.1 rfl (Nat.le_of_ble_eq_true rfl) dX7_fits_163 ⟨Nat.le_refl _, Nat.le_refl _⟩) hB.2.1 (fun v163 H163 locs hp hz hS => ?_)
                  obtain ⟨x16, rfl, lx16, ux16, rfl⟩ := hp
                  have hB := th_B_s hB hS
                  refine W.eq (g2 := F0 m 166 ls [.int x16]) rfl ?_
                  exact th_iret hC hH hr hlocks (th_nb (by omega) (by omega)) hB.2.1 ⟨_, rfl, by omega, by omega, by intros; omega, by intros; omega, by first | (intro h9; exact absurd h9 (by decide)) | (intro _; exact ⟨_, _, _, _, mbn8, hbn8, mb6, hb6, mx7, by omega, by omega⟩), rfl⟩ dX7_fits_166
                · refine lv_lload_n hx hb dX7_fits_106 rfl (lv_at hl 5 rfl) ?_
                  refine lv_iconst (v := 4) hx hb dX7_fits_107 (by decide) ?_
                  refine lv_iload hx hb dX7_fits_108 (lv_at hl 2 rfl) ?_
                  refine lv_iload hx hb dX7_fits_110 (lv_at hl 6 rfl) ?_
                  refine tr_iadd hx hb dX7_fits_112 (Eq.refl _) (Eq.refl _) (by omega) (by omega) (fun x17 ex17 => ?_)
                  refine tr_imul hx hb dX7_fits_113 tk_4 (Eq.refl _) (by omega) (by omega) (fun x18 ex18 => ?_)
                  refine lv_lushr hx hb dX7_fits_114 rfl ?_
                  refine lv_topl (fun y19 ey19 => ?_)
                  refine lv_ldc2 (v := 15) hx hb hC.2.2.2.1 (hC.2.2.2.2.1 _ kw_950) dX7_fits_115 ?_
                  refine lv_land hx hb dX7_fits_118 ?_
                  refine lv_topl (fun y20 ey20 => ?_)
                  refine lv_iload hx hb dX7_fits_119 (lv_at hl 1 rfl) ?_
                  refine lv_i2l hx hb dX7_fits_121 rfl ?_
                  refine lv_topl (fun y21 ey21 => ?_)
                  refine tr_lcmp hx hb dX7_fits_122 (fun x22 fx22 gx22 => ?_)
                  refine tr_if_gt (tgt := 148) hx hb dX7_fits_123 (by decide) (Eq.refl _) (fun c123 => ?_) (fun c123 => ?_)
                  · refine lv_iconst (v := 0) hx hb dX7_fits_148 (by decide) ?_
                    exact th_iret hC hH hr hlocks narrow_b0 hB.2.1 ⟨_, rfl, by decide, by decide, by first | (intro h9; exact absurd h9 (by decide)) | (have w9 := tk_0; intros; omega), by first | (intro h9; exact absurd h9 (by decide)) | (have w9 := tk_0; intros; omega), by first | (intro h9; exact absurd h9 (by decide)) | (intro _; exact ⟨_, _, _, _, mbn8, hbn8, mb6, hb6, mx7, by omega, by omega⟩), rfl⟩ dX7_fits_149
                  · refine lv_aload_n hx hb dX7_fits_126 rfl (lv_at hl 4 rfl) ?_
                    refine th_getK hC cf_X7 hB.1 h0 ro_27 rfl (j := 8) (by decide) mbn8 kf_X7_38 dX7_fits_127 ?_
                    refine th_getO (j := 6) (r2 := 10) hC cf_X1 hB.1 hbn8 ro_3 rfl rfl kf_X7_167 dX7_fits_130 (fun b23 mb23 hb23 => ?_)
                    refine lv_iload hx hb dX7_fits_133 (lv_at hl 1 rfl) ?_
                    refine lv_iload hx hb dX7_fits_135 (lv_at hl 6 rfl) ?_
                    refine tr_iadd hx hb dX7_fits_137 (Eq.refl _) (Eq.refl _) (by omega) (by omega) (fun x24 ex24 => ?_)
                    refine th_ialdF hC hB.1 hb23 ro_10 rfl (Eq.refl _) (by omega) (by omega) rfl dX7_fits_138 (fun x25 mx25 lx25 ux25 => ?_)
                    refine lv_iload hx hb dX7_fits_139 (lv_at hl 2 rfl) ?_
                    refine lv_ishr hx hb dX7_fits_141 ?_
                    refine lv_topi (fun x26 ex26 => ?_)
                    have lx26 := ti_lo x26; have ux26 := ti_hi x26
                    refine lv_iload hx hb dX7_fits_142 (lv_at hl 0 rfl) ?_
                    refine lv_iand hx hb dX7_fits_144 ?_
                    refine lv_topi (fun x27 ex27 => ?_)
                    have lx27 := ti_lo x27; have ux27 := ti_hi x27
                    refine tr_if_eq (tgt := 150) hx hb dX7_fits_145 (by decide) (Eq.refl _) (fun c145 => ?_) (fun c145 => ?_)
                    · refine tr_iinc (fun x28 => [(9, .int x28), (8, .int x15), (7, .int x9), (6, .int x8), (5, .int x7), (0, .ref a0), (1, .long p1)]) hx hb dX7_fits_150 hl (k := 6) rfl (Eq.refl _) tk_1 (by omega) (by omega) (by decide) (fun _ => rfl) (fun x28 ls ex28 hl => ?_)
                      refine lv_goto (tgt := 99) hx hb dX7_fits_153 (by decide) ?_
                      exact ih99 locs ls x28 hB (lv_sub hl [1, 2, 3, 4, 5, 6, 0] rfl) (by omega) (by omega) (by omega)
                    · refine lv_iconst (v := 0) hx hb dX7_fits_148 (by decide) ?_
                      exact th_iret hC hH hr hlocks narrow_b0 hB.2.1 ⟨_, rfl, by decide, by decide, by first | (intro h9; exact absurd h9 (by decide)) | (have w9 := tk_0; intros; omega), by first | (intro h9; exact absurd h9 (by decide)) | (have w9 := tk_0; intros; omega), by first | (intro h9; exact absurd h9 (by decide)) | (intro _; exact ⟨_, _, _, _, mbn8, hbn8, mb6, hb6, mx7, by omega, by omega⟩), rfl⟩ dX7_fits_149
            exact lp99 ((2147483648 : Int) - (0)).toNat locs ls 0 hB (lv_sub hl [1, 2, 3, 4, 5, 6, 0] rfl) (by decide) (by decide) (by have w0 := tk_0; omega)
          · refine lv_iconst (v := 0) hx hb dX7_fits_86 (by decide) ?_
            exact th_iret hC hH hr hlocks narrow_b0 hB.2.1 ⟨_, rfl, by decide, by decide, by first | (intro h9; exact absurd h9 (by decide)) | (have w9 := tk_0; intros; omega), by first | (intro h9; exact absurd h9 (by decide)) | (have w9 := tk_0; intros; omega), by first | (intro h9; exact absurd h9 (by decide)) | (intro _; exact ⟨_, _, _, _, mbn8, hbn8, mb6, hb6, mx7, by omega, by omega⟩), rfl⟩ dX7_fits_87
      · refine lv_iconst (v := 0) hx hb dX7_fits_29 (by decide) ?_
        exact th_iret hC hH hr hlocks narrow_b0 hB.2.1 ⟨_, rfl, by decide, by decide, by first | (intro h9; exact absurd h9 (by decide)) | (have w9 := tk_0; intros; omega), by first | (intro h9; exact absurd h9 (by decide)) | (have w9 := tk_0; intros; omega), by first | (intro h9; exact absurd h9 (by decide)) | (intro _; exact ⟨_, _, _, _, mbn8, hbn8, mb6, hb6, mx7, by omega, by omega⟩), rfl⟩ dX7_fits_30

set_option maxHeartbeats 4000000 in
set_option maxRecDepth 100000 in
theorem c_X7_fillsAlone (l : Launch) (G : th_G) (Γ : th_Ga) (H0 : Heap) (hI : th_I G Γ H0) (hR : th_RC G Γ H0) (hU : dv_U Γ) (a0 : Nat) (h0 : Γ a0 = (27, 0)) (p1 : Int32) (f1 : 0 ≤ p1.toInt) (g1 : p1.toInt ≤ 8) (nn7 : ∃ b : Nat, th_sl H0 a0 (G.1.2 7 7) = .ref b ∧ Γ b = (11, 0)) (nn8 : ∃ b : Nat, th_sl H0 a0 (G.1.2 7 8) = .ref b ∧ Γ b = (3, 0)) : Met l yX7_fillsAlone (.code yX7_fillsAlone cX7_fillsAlone 3 (some FieldType.boolean) :: th_tb) ({ frames := 5, cells := 0, slots := 0, locals := 130 } : Room) (th_P [.ref a0, .int p1] G H0) (th_Q (fun (v : Option Value) (H1 : Heap) => ∃ r : Int32, v = some (.int r) ∧ 0 ≤ r.toInt ∧ r.toInt ≤ 1 ∧ th_I G Γ H1 ∧ th_F G Γ [(24, 0), (23, 3), (26, 0), (25, 0), (28, 0), (29, 0)] H0 H1 ∧ th_RC G Γ H1) G) 0 0 (fun q => G.2.2 ≤ q) := by
  refine th_met RX7 (by decide) rfl (Nat.le_of_ble_eq_true rfl) ?_
  intro p e s m below meth c hC hH hr hlocks hnm ls hl
  have hx := hC.1
  have hb := hC.2.1
  have hB : th_B G Γ Γ [(24, 0), (23, 3), (26, 0), (25, 0), (28, 0), (29, 0)] H0 H0 [] := ⟨hI, va_S.rf, th_F_rf⟩
  have hl : lv_has ls 3 [(0, .ref a0), (1, .int p1)] := hl
  have lp1 := ti_lo p1; have up1 := ti_hi p1
  obtain ⟨bn7, mbn7, hbn7⟩ := nn7
  obtain ⟨bn8, mbn8, hbn8⟩ := nn8
  refine lv_aload_n hx hb dX7_fillsAlone_0 rfl (lv_at hl 0 rfl) ?_
  refine lv_lconst (v := 0) hx hb dX7_fillsAlone_1 rfl ?_
  refine lv_iconst (v := 0) hx hb dX7_fillsAlone_2 (by decide) ?_
  refine th_call (th_runV (As := [.long 0, .int 0]) (rest := []) hC mf_X7_firstBare km_X7_104 im_X7_firstBare se_X7_firstBare (c_X7_firstBare l G Γ H0 hB.1 hU a0 h0 0 0 (by decide) (by decide) ⟨_, mbn8, hbn8⟩) rfl rfl ⟨Nat.le_of_ble_eq_true rfl, Nat.le_of_ble_eq_true rfl⟩ hB.1 h0 ro_27 rfl rfl hl.1 rfl (Nat.le_of_ble_eq_true rfl) dX7_fillsAlone_3 ⟨Nat.le_refl _, Nat.le_refl _⟩) hB.2.1 (fun v3 H3 locs hp hz hS => ?_)
  obtain ⟨x1, rfl, lx1, ux1, rfl⟩ := hp
  have hB := th_B_s hB hS
  refine W.eq (g2 := F0 m 6 ls [.int x1]) rfl ?_
  refine lv_istore_n (lv' := [(2, .int x1), (0, .ref a0), (1, .int p1)]) hx hb dX7_fillsAlone_6 rfl hl (by decide) rfl (fun ls hl => ?_)
  refine lv_aload_n hx hb dX7_fillsAlone_7 rfl (lv_at hl 1 rfl) ?_
  refine th_getK hC cf_X7 hB.1 h0 ro_27 rfl (j := 8) (by decide) mbn8 kf_X7_38 dX7_fillsAlone_8 ?_
  refine th_getO (j := 0) (r2 := 4) hC cf_X1 hB.1 hbn8 ro_3 rfl rfl kf_X7_87 dX7_fillsAlone_11 (fun b2 mb2 hb2 => ?_)
  refine lv_iload_n hx hb dX7_fillsAlone_14 rfl (lv_at hl 2 rfl) ?_
  refine th_ialdF hC hB.1 hb2 ro_4 rfl (Eq.refl _) (by omega) (by omega) rfl dX7_fillsAlone_15 (fun x3 mx3 lx3 ux3 => ?_)
  refine lv_aload_n hx hb dX7_fillsAlone_16 rfl (lv_at hl 1 rfl) ?_
  refine th_getK hC cf_X7 hB.1 h0 ro_27 rfl (j := 8) (by decide) mbn8 kf_X7_38 dX7_fillsAlone_17 ?_
  refine th_getK hC cf_X1 hB.1 hbn8 ro_3 rfl (j := 0) (by decide) mb2 kf_X7_87 dX7_fillsAlone_20 ?_
  refine lv_iload_n hx hb dX7_fillsAlone_23 rfl (lv_at hl 2 rfl) ?_
  refine th_ialdF hC hB.1 hb2 ro_4 rfl (Eq.refl _) (by omega) (by omega) rfl dX7_fillsAlone_24 (fun x4 mx4 lx4 ux4 => ?_)
  have qx4 : x4.toInt = x3.toInt := by rw [show x4 = x3 from Value.int.inj (mx4.symm.trans mx3)]
  have q6 := ti_mulr (a := x3.toInt) (b := x4.toInt) (A := 12) (B := 12) (by omega) (by omega) (by omega) (by omega)
  generalize hex5 : x3.toInt * x4.toInt = wx5 at q6
  refine tr_imul hx hb dX7_fillsAlone_25 (Eq.refl _) (Eq.refl _) (by rw [hex5]; omega) (by rw [hex5]; omega) (fun x5 ex5 => ?_)
  rw [hex5] at ex5
  refine lv_aload_n hx hb dX7_fillsAlone_26 rfl (lv_at hl 1 rfl) ?_
  refine th_getI (j := 11) hC cf_X7 hB.1 h0 ro_27 rfl rfl kf_X7_63 dX7_fillsAlone_27 (fun x7 mx7 lx7 ux7 => ?_)
  refine tr_icmp_ne (tgt := 57) hx hb dX7_fillsAlone_30 (by decide) (Eq.refl _) (Eq.refl _) (fun c30 => ?_) (fun c30 => ?_)
  · refine lv_iconst (v := 0) hx hb dX7_fillsAlone_57 (by decide) ?_
    exact th_iret hC hH hr hlocks narrow_b0 hB.2.1 ⟨_, rfl, by decide, by decide, hB.1, hB.2.2, hR⟩ dX7_fillsAlone_58
  · refine lv_aload_n hx hb dX7_fillsAlone_33 rfl (lv_at hl 1 rfl) ?_
    refine lv_lconst (v := 0) hx hb dX7_fillsAlone_34 rfl ?_
    refine lv_iload_n hx hb dX7_fillsAlone_35 rfl (lv_at hl 2 rfl) ?_
    refine lv_iload_n hx hb dX7_fillsAlone_36 rfl (lv_at hl 0 rfl) ?_
    refine th_call (th_runV (As := [.long 0, .int p1, .int x1]) (rest := []) hC mf_X7_fits km_X7_108 im_X7_fits se_X7_fits (c_X7_fits l G Γ H0 hB.1 hU a0 h0 0 p1 x1 (by omega) (by omega) ⟨_, mbn8, hbn8⟩) rfl rfl ⟨Nat.le_of_ble_eq_true rfl, Nat.le_of_ble_eq_true rfl⟩ hB.1 h0 ro_27 rfl rfl hl.1 rfl (Nat.le_of_ble_eq_true rfl) dX7_fillsAlone_37 ⟨Nat.le_refl _, Nat.le_refl _⟩) hB.2.1 (fun v37 H37 locs hp hz hS => ?_)
    obtain ⟨x8, rfl, lx8, ux8, q37_0, q37_1, q37_2, rfl⟩ := hp
    have hB := th_B_s hB hS
    refine W.eq (g2 := F0 m 40 ls [.int x8]) rfl ?_
    refine tr_if_eq (tgt := 57) hx hb dX7_fillsAlone_40 (by decide) (Eq.refl _) (fun c40 => ?_) (fun c40 => ?_)
    · refine lv_iconst (v := 0) hx hb dX7_fillsAlone_57 (by decide) ?_
      exact th_iret hC hH hr hlocks narrow_b0 hB.2.1 ⟨_, rfl, by decide, by decide, hB.1, hB.2.2, hR⟩ dX7_fillsAlone_58
    · refine lv_aload_n hx hb dX7_fillsAlone_43 rfl (lv_at hl 1 rfl) ?_
      refine lv_iload_n hx hb dX7_fillsAlone_44 rfl (lv_at hl 2 rfl) ?_
      refine lv_iload_n hx hb dX7_fillsAlone_45 rfl (lv_at hl 0 rfl) ?_
      refine th_call (th_runV (As := [.int p1, .int x1]) (rest := []) hC mf_X7_priceAt km_X7_112 im_X7_priceAt se_X7_priceAt (c_X7_priceAt l G Γ H0 hB.1 hR hU a0 h0 p1 (by omega) (by omega) x1 (by omega) (by omega) ⟨_, mbn7, hbn7⟩ ⟨_, mbn8, hbn8⟩) rfl rfl ⟨Nat.le_of_ble_eq_true rfl, Nat.le_of_ble_eq_true rfl⟩ hB.1 h0 ro_27 rfl rfl hl.1 rfl (Nat.le_of_ble_eq_true rfl) dX7_fillsAlone_46 ⟨Nat.le_refl _, Nat.le_refl _⟩) hB.2.1 (fun v46 H46 locs hp hz hS => ?_)
      obtain ⟨x9, rfl, hI1, hf, hR⟩ := hp
      have hB := th_B_c hB hI1 hS hf (by decide)
      have mm10 := (th_F_o hf h0 ro_27 (j := 7) (by decide) (by decide)).trans mbn7
      have mm11 := (th_F_o hf h0 ro_27 (j := 8) (by decide) (by decide)).trans mbn8
      have mm12 := (th_F_o hf hbn8 ro_3 (j := 0) (by decide) (by decide)).trans mb2
      refine W.eq (g2 := F0 m 49 ls [.int x9]) rfl ?_
      refine lv_iconst (v := (-1)) hx hb dX7_fillsAlone_49 (by decide) ?_
      refine tr_icmp_eq (tgt := 57) hx hb dX7_fillsAlone_50 (by decide) (Eq.refl _) tk_m1 (fun c50 => ?_) (fun c50 => ?_)
      · refine lv_iconst (v := 0) hx hb dX7_fillsAlone_57 (by decide) ?_
        exact th_iret hC hH hr hlocks narrow_b0 hB.2.1 ⟨_, rfl, by decide, by decide, hB.1, hB.2.2, hR⟩ dX7_fillsAlone_58
      · refine lv_iconst (v := 1) hx hb dX7_fillsAlone_53 (by decide) ?_
        refine lv_goto (tgt := 58) hx hb dX7_fillsAlone_54 (by decide) ?_
        exact th_iret hC hH hr hlocks narrow_b1 hB.2.1 ⟨_, rfl, by decide, by decide, hB.1, hB.2.2, hR⟩ dX7_fillsAlone_58

set_option maxHeartbeats 4000000 in
set_option maxRecDepth 100000 in
theorem c_X7_addToTally (l : Launch) (G : th_G) (Γ : th_Ga) (H0 : Heap) (hI : th_I G Γ H0) (hR : th_RC G Γ H0) (hU : dv_U Γ) (a0 : Nat) (h0 : Γ a0 = (27, 0)) (p1 : Int32) (f1 : 0 ≤ p1.toInt) (g1 : p1.toInt ≤ 8) (p2 : Int32) (f2 : 0 ≤ p2.toInt) (g2 : p2.toInt ≤ 143) (p3 : Int32) (nn8 : ∃ b : Nat, th_sl H0 a0 (G.1.2 7 8) = .ref b ∧ Γ b = (3, 0)) (k1 : th_fit G Γ H0 a0 p1 p2) : Met l yX7_addToTally (.code yX7_addToTally cX7_addToTally 7 (none) :: th_tb) ({ frames := 0, cells := 0, slots := 0, locals := 0 } : Room) (th_P [.ref a0, .int p1, .int p2, .int p3] G H0) (th_Q (fun (v : Option Value) (H1 : Heap) => v = none ∧ th_I G Γ H1 ∧ th_F G Γ [(30, 0)] H0 H1 ∧ th_RC G Γ H1) G) 0 0 (fun q => G.2.2 ≤ q) := by
  refine th_met RX7 (by decide) rfl (Nat.le_of_ble_eq_true rfl) ?_
  intro p e s m below meth c hC hH hr hlocks hnm ls hl
  have hx := hC.1
  have hb := hC.2.1
  have hB : th_B G Γ Γ [(30, 0)] H0 H0 [] := ⟨hI, va_S.rf, th_F_rf⟩
  have hl : lv_has ls 7 [(0, .ref a0), (1, .int p1), (2, .int p2), (3, .int p3)] := hl
  have lp1 := ti_lo p1; have up1 := ti_hi p1
  have lp2 := ti_lo p2; have up2 := ti_hi p2
  have lp3 := ti_lo p3; have up3 := ti_hi p3
  obtain ⟨bn8, mbn8, hbn8⟩ := nn8
  refine lv_aload_n hx hb dX7_addToTally_0 rfl (lv_at hl 0 rfl) ?_
  refine th_getK hC cf_X7 hB.1 h0 ro_27 rfl (j := 8) (by decide) mbn8 kf_X7_38 dX7_addToTally_1 ?_
  refine th_getO (j := 0) (r2 := 4) hC cf_X1 hB.1 hbn8 ro_3 rfl rfl kf_X7_87 dX7_addToTally_4 (fun b1 mb1 hb1 => ?_)
  refine lv_iload_n hx hb dX7_addToTally_7 rfl (lv_at hl 1 rfl) ?_
  refine th_ialdF hC hB.1 hb1 ro_4 rfl (Eq.refl _) (by omega) (by omega) rfl dX7_addToTally_8 (fun x2 mx2 lx2 ux2 => ?_)
  obtain ⟨fi1, fi2⟩ := th_fit_at k1 mbn8 mb1 mx2
  refine lv_istore (lv' := [(4, .int x2), (0, .ref a0), (1, .int p1), (2, .int p2), (3, .int p3)]) hx hb dX7_addToTally_9 hl (by decide) rfl (fun ls hl => ?_)
  refine lv_iconst (v := 0) hx hb dX7_addToTally_11 (by decide) ?_
  refine lv_istore (lv' := [(5, .int 0), (4, .int x2), (0, .ref a0), (1, .int p1), (2, .int p2), (3, .int p3)]) hx hb dX7_addToTally_12 hl (by decide) rfl (fun ls hl => ?_)
  have lp14 : ∀ (n14 : Nat) (H14 : Heap) (locs : List Loc) (ls : Array Slot) (j14_5 : Int32), th_B G Γ Γ [(30, 0)] H0 H14 locs → th_RC G Γ H14 → lv_has ls 7 [(4, .int x2), (0, .ref a0), (1, .int p1), (2, .int p2), (3, .int p3), (5, .int j14_5)] → 0 ≤ j14_5.toInt → j14_5.toInt ≤ 12 → (2147483648 : Int) - j14_5.toInt ≤ (n14 : Int) → W p l e ({ frames := 0, cells := 0, slots := 0, locals := 0 } : Room) s m ([.ref a0, .int p1, .int p2, .int p3] : List Value).toArray below meth c H14 locs 0 0 (MQ below (th_Q (fun (v : Option Value) (H1 : Heap) => v = none ∧ th_I G Γ H1 ∧ th_F G Γ [(30, 0)] H0 H1 ∧ th_RC G Γ H1) G) ([.ref a0, .int p1, .int p2, .int p3] : List Value).toArray s 0 0 (fun q => G.2.2 ≤ q)) (F0 m 14 ls []) := by
    intro n14
    induction n14 with
    | zero => intro H14 locs ls j14_5 hB hR hl g14_0 g14_1 hm14; exact absurd hm14 (by have := ti_hi j14_5; omega)
    | succ n14 ih14 =>
      intro H14 locs ls j14_5 hB hR hl g14_0 g14_1 hm14
      have lj14_5 := ti_lo j14_5; have uj14_5 := ti_hi j14_5
      have hm14 : (2147483648 : Int) - j14_5.toInt ≤ (n14 : Int) + 1 := by omega
      refine lv_iload hx hb dX7_addToTally_14 (lv_at hl 5 rfl) ?_
      refine lv_iload hx hb dX7_addToTally_16 (lv_at hl 0 rfl) ?_
      refine tr_icmp_ge (tgt := 72) hx hb dX7_addToTally_18 (by decide) (Eq.refl _) (Eq.refl _) (fun c18 => ?_) (fun c18 => ?_)
      · exact th_vret hC hH hr hlocks hB.2.1 ⟨rfl, hB.1, hB.2.2, hR⟩ dX7_addToTally_72
      · refine lv_iload_n hx hb dX7_addToTally_21 rfl (lv_at hl 4 rfl) ?_
        refine tr_if_le (tgt := 72) hx hb dX7_addToTally_22 (by decide) (Eq.refl _) (fun c22 => ?_) (fun c22 => ?_)
        · exact th_vret hC hH hr hlocks hB.2.1 ⟨rfl, hB.1, hB.2.2, hR⟩ dX7_addToTally_72
        · refine lv_iconst (v := 0) hx hb dX7_addToTally_25 (by decide) ?_
          refine lv_istore (lv' := [(6, .int 0), (4, .int x2), (0, .ref a0), (1, .int p1), (2, .int p2), (3, .int p3), (5, .int j14_5)]) hx hb dX7_addToTally_26 hl (by decide) rfl (fun ls hl => ?_)
          have lp28 : ∀ (n28 : Nat) (H28 : Heap) (locs : List Loc) (ls : Array Slot) (j28_6 : Int32), th_B G Γ Γ [(30, 0)] H0 H28 locs → th_RC G Γ H28 → lv_has ls 7 [(4, .int x2), (0, .ref a0), (1, .int p1), (2, .int p2), (3, .int p3), (5, .int j14_5), (6, .int j28_6)] → 0 ≤ j28_6.toInt → j28_6.toInt ≤ 12 → (2147483648 : Int) - j28_6.toInt ≤ (n28 : Int) → W p l e ({ frames := 0, cells := 0, slots := 0, locals := 0 } : Room) s m ([.ref a0, .int p1, .int p2, .int p3] : List Value).toArray below meth c H28 locs 0 0 (MQ below (th_Q (fun (v : Option Value) (H1 : Heap) => v = none ∧ th_I G Γ H1 ∧ th_F G Γ [(30, 0)] H0 H1 ∧ th_RC G Γ H1) G) ([.ref a0, .int p1, .int p2, .int p3] : List Value).toArray s 0 0 (fun q => G.2.2 ≤ q)) (F0 m 28 ls []) := by
            intro n28
            induction n28 with
            | zero => intro H28 locs ls j28_6 hB hR hl g28_0 g28_1 hm28; exact absurd hm28 (by have := ti_hi j28_6; omega)
            | succ n28 ih28 =>
              intro H28 locs ls j28_6 hB hR hl g28_0 g28_1 hm28
              have lj28_6 := ti_lo j28_6; have uj28_6 := ti_hi j28_6
              have hm28 : (2147483648 : Int) - j28_6.toInt ≤ (n28 : Int) + 1 := by omega
              refine lv_iload hx hb dX7_addToTally_28 (lv_at hl 6 rfl) ?_
              refine lv_iload hx hb dX7_addToTally_30 (lv_at hl 0 rfl) ?_
              refine tr_icmp_ge (tgt := 66) hx hb dX7_addToTally_32 (by decide) (Eq.refl _) (Eq.refl _) (fun c32 => ?_) (fun c32 => ?_)
              · refine tr_iinc (fun x3 => [(5, .int x3), (4, .int x2), (0, .ref a0), (1, .int p1), (2, .int p2), (3, .int p3), (6, .int j28_6)]) hx hb dX7_addToTally_66 hl (k := 5) rfl (Eq.refl _) tk_1 (by omega) (by omega) (by decide) (fun _ => rfl) (fun x3 ls ex3 hl => ?_)
                refine lv_goto (tgt := 14) hx hb dX7_addToTally_69 (by decide) ?_
                exact ih14 H28 locs ls x3 hB hR (lv_sub hl [1, 2, 3, 4, 5, 0] rfl) (by omega) (by omega) (by omega)
              · refine lv_aload_n hx hb dX7_addToTally_35 rfl (lv_at hl 1 rfl) ?_
                refine th_getO (j := 3) (r2 := 30) hC cf_X7 hB.1 h0 ro_27 rfl rfl kf_X7_25 dX7_addToTally_36 (fun b4 mb4 hb4 => ?_)
                have sb4 := (th_F_o hB.2.2 h0 ro_27 (j := 3) (by decide) (by decide)).symm.trans mb4
                refine lv_iload_n hx hb dX7_addToTally_39 rfl (lv_at hl 2 rfl) ?_
                refine lv_sipush (v := 144) hx hb dX7_addToTally_40 (by decide) ?_
                refine tr_imul hx hb dX7_addToTally_43 (Eq.refl _) tk_144 (by omega) (by omega) (fun x5 ex5 => ?_)
                refine lv_iload_n hx hb dX7_addToTally_44 rfl (lv_at hl 3 rfl) ?_
                refine tr_iadd hx hb dX7_addToTally_45 (Eq.refl _) (Eq.refl _) (by omega) (by omega) (fun x6 ex6 => ?_)
                refine lv_iload hx hb dX7_addToTally_46 (lv_at hl 5 rfl) ?_
                refine lv_bipush (v := 12) hx hb dX7_addToTally_48 (by decide) ?_
                refine tr_imul hx hb dX7_addToTally_50 (Eq.refl _) tk_12 (by omega) (by omega) (fun x7 ex7 => ?_)
                refine tr_iadd hx hb dX7_addToTally_51 (Eq.refl _) (Eq.refl _) (by omega) (by omega) (fun x8 ex8 => ?_)
                refine lv_iload hx hb dX7_addToTally_52 (lv_at hl 6 rfl) ?_
                refine tr_iadd hx hb dX7_addToTally_54 (Eq.refl _) (Eq.refl _) (by omega) (by omega) (fun x9 ex9 => ?_)
                refine lv_dup2_11 hx hb dX7_addToTally_55 rfl rfl ?_
                refine th_ialdF hC hB.1 hb4 ro_30 rfl (Eq.refl _) (by omega) (by omega) rfl dX7_addToTally_56 (fun x10 mx10 lx10 ux10 => ?_)
                refine lv_iload_n hx hb dX7_addToTally_57 rfl (lv_at hl 4 rfl) ?_
                refine lv_iadd hx hb dX7_addToTally_58 ?_
                refine lv_topi (fun x11 ex11 => ?_)
                have lx11 := ti_lo x11; have ux11 := ti_hi x11
                refine th_iastF hC hB hb4 (Or.inl hb4) ro_30 rfl (by decide) (Eq.refl _) (by omega) (by omega) th_sIa dX7_addToTally_59 (fun H59 locs hB hf59 hst59 => ?_)
                have hf := hf59
                have mm12 := (th_F_o hf h0 ro_27 (j := 3) (by decide) (by decide)).trans mb4
                have hR := th_RC_F hB.1 hR hf (th_T_s hb4 ro_30 hst59) (by decide)
                refine tr_iinc (fun x13 => [(6, .int x13), (4, .int x2), (0, .ref a0), (1, .int p1), (2, .int p2), (3, .int p3), (5, .int j14_5)]) hx hb dX7_addToTally_60 hl (k := 6) rfl (Eq.refl _) tk_1 (by omega) (by omega) (by decide) (fun _ => rfl) (fun x13 ls ex13 hl => ?_)
                refine lv_goto (tgt := 28) hx hb dX7_addToTally_63 (by decide) ?_
                exact ih28 H59 locs ls x13 hB hR (lv_sub hl [1, 2, 3, 4, 5, 6, 0] rfl) (by omega) (by omega) (by omega)
          exact lp28 ((2147483648 : Int) - (0)).toNat H14 locs ls 0 hB hR (lv_sub hl [1, 2, 3, 4, 5, 6, 0] rfl) (by decide) (by decide) (by have w0 := tk_0; omega)
  exact lp14 ((2147483648 : Int) - (0)).toNat H0 [] ls 0 hB hR (lv_sub hl [1, 2, 3, 4, 5, 0] rfl) (by decide) (by decide) (by have w0 := tk_0; omega)

set_option maxHeartbeats 4000000 in
set_option maxRecDepth 100000 in
theorem c_X7_tallyKey (l : Launch) (G : th_G) (Γ : th_Ga) (H0 : Heap) (hI : th_I G Γ H0) (hR : th_RC G Γ H0) (hU : dv_U Γ) (a0 : Nat) (h0 : Γ a0 = (27, 0)) (p1 : Int64) (p2 : Int32) (nn7 : ∃ b : Nat, th_sl H0 a0 (G.1.2 7 7) = .ref b ∧ Γ b = (11, 0)) (nn8 : ∃ b : Nat, th_sl H0 a0 (G.1.2 7 8) = .ref b ∧ Γ b = (3, 0)) : Met l yX7_tallyKey (.code yX7_tallyKey cX7_tallyKey 7 (none) :: th_tb) ({ frames := 5, cells := 0, slots := 0, locals := 130 } : Room) (th_P [.ref a0, .long p1, .int p2] G H0) (th_Q (fun (v : Option Value) (H1 : Heap) => v = none ∧ th_I G Γ H1 ∧ th_F G Γ [(24, 0), (23, 3), (26, 0), (25, 0), (28, 0), (29, 0), (30, 0)] H0 H1 ∧ th_RC G Γ H1) G) 0 0 (fun q => G.2.2 ≤ q) := by
  refine th_met RX7 (by decide) rfl (Nat.le_of_ble_eq_true rfl) ?_
  intro p e s m below meth c hC hH hr hlocks hnm ls hl
  have hx := hC.1
  have hb := hC.2.1
  have hB : th_B G Γ Γ [(24, 0), (23, 3), (26, 0), (25, 0), (28, 0), (29, 0), (30, 0)] H0 H0 [] := ⟨hI, va_S.rf, th_F_rf⟩
  have hl : lv_has ls 7 [(0, .ref a0), (1, .long p1), (3, .int p2)] := hl
  have lp2 := ti_lo p2; have up2 := ti_hi p2
  obtain ⟨bn7, mbn7, hbn7⟩ := nn7
  obtain ⟨bn8, mbn8, hbn8⟩ := nn8
  refine lv_aload_n hx hb dX7_tallyKey_0 rfl (lv_at hl 0 rfl) ?_
  refine lv_lload_n hx hb dX7_tallyKey_1 rfl (lv_at hl 1 rfl) ?_
  refine lv_iconst (v := 0) hx hb dX7_tallyKey_2 (by decide) ?_
  refine th_call (th_runV (As := [.long p1, .int 0]) (rest := []) hC mf_X7_firstBare km_X7_104 im_X7_firstBare se_X7_firstBare (c_X7_firstBare l G Γ H0 hB.1 hU a0 h0 p1 0 (by decide) (by decide) ⟨_, mbn8, hbn8⟩) rfl rfl ⟨Nat.le_of_ble_eq_true rfl, Nat.le_of_ble_eq_true rfl⟩ hB.1 h0 ro_27 rfl rfl hl.1 rfl (Nat.le_of_ble_eq_true rfl) dX7_tallyKey_3 ⟨Nat.le_refl _, Nat.le_refl _⟩) hB.2.1 (fun v3 H3 locs hp hz hS => ?_)
  obtain ⟨x1, rfl, lx1, ux1, rfl⟩ := hp
  have hB := th_B_s hB hS
  refine W.eq (g2 := F0 m 6 ls [.int x1]) rfl ?_
  refine lv_istore (lv' := [(4, .int x1), (0, .ref a0), (1, .long p1), (3, .int p2)]) hx hb dX7_tallyKey_6 hl (by decide) rfl (fun ls hl => ?_)
  refine lv_iconst (v := 0) hx hb dX7_tallyKey_8 (by decide) ?_
  refine lv_istore (lv' := [(5, .int 0), (4, .int x1), (0, .ref a0), (1, .long p1), (3, .int p2)]) hx hb dX7_tallyKey_9 hl (by decide) rfl (fun ls hl => ?_)
  have lp11 : ∀ (n11 : Nat) (H11 : Heap) (locs : List Loc) (ls : Array Slot) (j11_5 : Int32), th_B G Γ Γ [(24, 0), (23, 3), (26, 0), (25, 0), (28, 0), (29, 0), (30, 0)] H0 H11 locs → th_RC G Γ H11 → lv_has ls 7 [(4, .int x1), (0, .ref a0), (1, .long p1), (3, .int p2), (5, .int j11_5)] → 0 ≤ j11_5.toInt → j11_5.toInt ≤ 9 → (2147483648 : Int) - j11_5.toInt ≤ (n11 : Int) → W p l e ({ frames := 5, cells := 0, slots := 0, locals := 130 } : Room) s m ([.ref a0, .long p1, .int p2] : List Value).toArray below meth c H11 locs 0 0 (MQ below (th_Q (fun (v : Option Value) (H1 : Heap) => v = none ∧ th_I G Γ H1 ∧ th_F G Γ [(24, 0), (23, 3), (26, 0), (25, 0), (28, 0), (29, 0), (30, 0)] H0 H1 ∧ th_RC G Γ H1) G) ([.ref a0, .long p1, .int p2] : List Value).toArray s 0 0 (fun q => G.2.2 ≤ q)) (F0 m 11 ls []) := by
    intro n11
    induction n11 with
    | zero => intro H11 locs ls j11_5 hB hR hl g11_0 g11_1 hm11; exact absurd hm11 (by have := ti_hi j11_5; omega)
    | succ n11 ih11 =>
      intro H11 locs ls j11_5 hB hR hl g11_0 g11_1 hm11
      have lj11_5 := ti_lo j11_5; have uj11_5 := ti_hi j11_5
      have mm2 := (th_F_o hB.2.2 h0 ro_27 (j := 7) (by decide) (by decide)).trans mbn7
      have mm3 := (th_F_o hB.2.2 h0 ro_27 (j := 8) (by decide) (by decide)).trans mbn8
      have hm11 : (2147483648 : Int) - j11_5.toInt ≤ (n11 : Int) + 1 := by omega
      refine lv_iload hx hb dX7_tallyKey_11 (lv_at hl 4 rfl) ?_
      refine lv_aload_n hx hb dX7_tallyKey_13 rfl (lv_at hl 1 rfl) ?_
      refine th_getK hC cf_X7 hB.1 h0 ro_27 rfl (j := 8) (by decide) mm3 kf_X7_38 dX7_tallyKey_14 ?_
      refine th_getI (j := 7) hC cf_X1 hB.1 hbn8 ro_3 rfl rfl kf_X7_123 dX7_tallyKey_17 (fun x4 mx4 lx4 ux4 => ?_)
      have sx4 := (th_F_o hB.2.2 hbn8 ro_3 (j := 7) (by decide) (by decide)).symm.trans mx4
      refine tr_icmp_ge (tgt := 121) hx hb dX7_tallyKey_20 (by decide) (Eq.refl _) (Eq.refl _) (fun c20 => ?_) (fun c20 => ?_)
      · exact th_vret hC hH hr hlocks hB.2.1 ⟨rfl, hB.1, hB.2.2, hR⟩ dX7_tallyKey_121
      · refine lv_aload_n hx hb dX7_tallyKey_23 rfl (lv_at hl 1 rfl) ?_
        refine lv_lload_n hx hb dX7_tallyKey_24 rfl (lv_at hl 2 rfl) ?_
        refine lv_iload hx hb dX7_tallyKey_25 (lv_at hl 4 rfl) ?_
        refine lv_iload hx hb dX7_tallyKey_27 (lv_at hl 0 rfl) ?_
        refine th_call (th_runV (As := [.long p1, .int j11_5, .int x1]) (rest := []) hC mf_X7_fits km_X7_108 im_X7_fits se_X7_fits (c_X7_fits l G Γ H11 hB.1 hU a0 h0 p1 j11_5 x1 (by omega) (by omega) ⟨_, mm3, hbn8⟩) rfl rfl ⟨Nat.le_of_ble_eq_true rfl, Nat.le_of_ble_eq_true rfl⟩ hB.1 h0 ro_27 rfl rfl hl.1 rfl (Nat.le_of_ble_eq_true rfl) dX7_tallyKey_29 ⟨Nat.le_refl _, Nat.le_refl _⟩) hB.2.1 (fun v29 H29 locs hp hz hS => ?_)
        obtain ⟨x5, rfl, lx5, ux5, q29_0, q29_1, q29_2, rfl⟩ := hp
        have hB := th_B_s hB hS
        refine W.eq (g2 := F0 m 32 ls [.int x5]) rfl ?_
        have jn115 : ∀ (H115 : Heap) (locs : List Loc) (ls : Array Slot) , th_B G Γ Γ [(24, 0), (23, 3), (26, 0), (25, 0), (28, 0), (29, 0), (30, 0)] H0 H115 locs → th_RC G Γ H115 → lv_has ls 7 [(4, .int x1), (0, .ref a0), (1, .long p1), (3, .int p2), (5, .int j11_5)] → W p l e ({ frames := 5, cells := 0, slots := 0, locals := 130 } : Room) s m ([.ref a0, .long p1, .int p2] : List Value).toArray below meth c H115 locs 0 0 (MQ below (th_Q (fun (v : Option Value) (H1 : Heap) => v = none ∧ th_I G Γ H1 ∧ th_F G Γ [(24, 0), (23, 3), (26, 0), (25, 0), (28, 0), (29, 0), (30, 0)] H0 H1 ∧ th_RC G Γ H1) G) ([.ref a0, .long p1, .int p2] : List Value).toArray s 0 0 (fun q => G.2.2 ≤ q)) (F0 m 115 ls []) := by
          intro H115 locs ls hB hR hl
          have mm6 := (th_F_o hB.2.2 h0 ro_27 (j := 7) (by decide) (by decide)).trans mbn7
          have mm7 := (th_F_o hB.2.2 h0 ro_27 (j := 8) (by decide) (by decide)).trans mbn8
          have mm8 := (th_F_o hB.2.2 hbn8 ro_3 (j := 7) (by decide) (by decide)).trans sx4
          refine tr_iinc (fun x9 => [(5, .int x9), (4, .int x1), (0, .ref a0), (1, .long p1), (3, .int p2)]) hx hb dX7_tallyKey_115 hl (k := 4) rfl (Eq.refl _) tk_1 (by omega) (by omega) (by decide) (fun _ => rfl) (fun x9 ls ex9 hl => ?_)
          refine lv_goto (tgt := 11) hx hb dX7_tallyKey_118 (by decide) ?_
          exact ih11 H115 locs ls x9 hB hR (lv_sub hl [1, 2, 3, 4, 0] rfl) (by omega) (by omega) (by omega)
        refine tr_if_eq (tgt := 115) hx hb dX7_tallyKey_32 (by decide) (Eq.refl _) (fun c32 => ?_) (fun c32 => ?_)
        · exact jn115 H11 locs ls hB hR (lv_sub hl [0, 1, 2, 3, 4] rfl)
        · refine lv_aload_n hx hb dX7_tallyKey_35 rfl (lv_at hl 1 rfl) ?_
          have ft := q29_2 (by omega)
          refine lv_iload hx hb dX7_tallyKey_36 (lv_at hl 4 rfl) ?_
          refine lv_iload hx hb dX7_tallyKey_38 (lv_at hl 0 rfl) ?_
          refine th_call (th_runV (As := [.int j11_5, .int x1]) (rest := []) hC mf_X7_priceAt km_X7_112 im_X7_priceAt se_X7_priceAt (c_X7_priceAt l G Γ H11 hB.1 hR hU a0 h0 j11_5 (by omega) (by omega) x1 (by omega) (by omega) ⟨_, mm2, hbn7⟩ ⟨_, mm3, hbn8⟩) rfl rfl ⟨Nat.le_of_ble_eq_true rfl, Nat.le_of_ble_eq_true rfl⟩ hB.1 h0 ro_27 rfl rfl hl.1 rfl (Nat.le_of_ble_eq_true rfl) dX7_tallyKey_40 ⟨Nat.le_refl _, Nat.le_refl _⟩) hB.2.1 (fun v40 H40 locs hp hz hS => ?_)
          obtain ⟨x10, rfl, hI1, hf, hR⟩ := hp
          have hB := th_B_c hB hI1 hS hf (by decide)
          have mm11 := (th_F_o hf h0 ro_27 (j := 7) (by decide) (by decide)).trans mm2
          have mm12 := (th_F_o hf h0 ro_27 (j := 8) (by decide) (by decide)).trans mm3
          have mm13 := (th_F_o hf hbn8 ro_3 (j := 7) (by decide) (by decide)).trans mx4
          have mc14 := th_fit_F ft h0 hf (by decide)
          refine W.eq (g2 := F0 m 43 ls [.int x10]) rfl ?_
          refine lv_iconst (v := (-1)) hx hb dX7_tallyKey_43 (by decide) ?_
          refine tr_icmp_ne (tgt := 50) hx hb dX7_tallyKey_44 (by decide) (Eq.refl _) tk_m1 (fun c44 => ?_) (fun c44 => ?_)
          · refine lv_aload_n hx hb dX7_tallyKey_50 rfl (lv_at hl 1 rfl) ?_
            refine th_getR (j := 0) (r2 := 12) hC cf_X7 hB.1 h0 ro_27 rfl rfl kf_X7_12 dX7_tallyKey_51 (fun b15 mb15 hb15 => ?_)
            have sb15 := (th_F_o hB.2.2 h0 ro_27 (j := 0) (by decide) (by decide)).symm.trans mb15
            refine lv_aload_n hx hb dX7_tallyKey_54 rfl (lv_at hl 1 rfl) ?_
            refine lv_lload_n hx hb dX7_tallyKey_55 rfl (lv_at hl 2 rfl) ?_
            refine lv_iload hx hb dX7_tallyKey_56 (lv_at hl 4 rfl) ?_
            refine lv_iload hx hb dX7_tallyKey_58 (lv_at hl 0 rfl) ?_
            refine th_call (th_runV (As := [.long p1, .int j11_5, .int x1]) (rest := [.ref b15]) hC mf_X7_keyWith km_X7_152 im_X7_keyWith se_X7_keyWith (c_X7_keyWith l G Γ H40 hB.1 hU a0 h0 p1 j11_5 (by omega) (by omega) x1 (by omega) (by omega) ⟨_, mm12, hbn8⟩) rfl rfl ⟨Nat.le_of_ble_eq_true rfl, Nat.le_of_ble_eq_true rfl⟩ hB.1 h0 ro_27 rfl rfl hl.1 rfl (Nat.le_of_ble_eq_true rfl) dX7_tallyKey_60 ⟨Nat.le_refl _, Nat.le_refl _⟩) hB.2.1 (fun v60 H60 locs hp hz hS => ?_)
            obtain ⟨y16, rfl, rfl⟩ := hp
            have hB := th_B_s hB hS
            refine W.eq (g2 := F0 m 63 ls [.long y16, .ref b15]) rfl ?_
            refine th_call (th_runV (As := [.long y16]) (rest := []) hC mf_X3_find km_X7_145 im_X3_find se_X3_find (c_X3_find l G Γ H40 hB.1 hR b15 hb15 y16) rfl rfl ⟨Nat.le_of_ble_eq_true rfl, Nat.le_of_ble_eq_true rfl⟩ hB.1 hb15 ro_12 rfl rfl hl.1 rfl (Nat.le_of_ble_eq_true rfl) dX7_tallyKey_63 ⟨Nat.le_refl _, Nat.le_refl _⟩) hB.2.1 (fun v63 H63 locs hp hz hS => ?_)
            obtain ⟨x17, rfl, lx17, ux17, rfl⟩ := hp
            have hB := th_B_s hB hS
            refine W.eq (g2 := F0 m 66 ls [.int x17]) rfl ?_
            refine lv_istore (lv' := [(6, .int x17), (4, .int x1), (0, .ref a0), (1, .long p1), (3, .int p2), (5, .int j11_5)]) hx hb dX7_tallyKey_66 hl (by decide) rfl (fun ls hl => ?_)
            refine lv_iload hx hb dX7_tallyKey_68 (lv_at hl 0 rfl) ?_
            refine lv_iconst (v := (-1)) hx hb dX7_tallyKey_70 (by decide) ?_
            refine tr_icmp_ne (tgt := 86) hx hb dX7_tallyKey_71 (by decide) (Eq.refl _) tk_m1 (fun c71 => ?_) (fun c71 => ?_)
            · refine lv_aload_n hx hb dX7_tallyKey_86 rfl (lv_at hl 2 rfl) ?_
              refine th_getK hC cf_X7 hB.1 h0 ro_27 rfl (j := 0) (by decide) mb15 kf_X7_12 dX7_tallyKey_87 ?_
              refine lv_iload hx hb dX7_tallyKey_90 (lv_at hl 0 rfl) ?_
              refine lv_iload_n hx hb dX7_tallyKey_92 rfl (lv_at hl 4 rfl) ?_
              refine th_call (th_runV (As := [.int x17, .int p2]) (rest := []) hC mf_X3_addFlow km_X7_202 im_X3_addFlow se_X3_addFlow (c_X3_addFlow l G Γ H40 hB.1 hR b15 hb15 x17 p2) rfl rfl ⟨Nat.le_of_ble_eq_true rfl, Nat.le_of_ble_eq_true rfl⟩ hB.1 hb15 ro_12 rfl rfl hl.1 rfl (Nat.le_of_ble_eq_true rfl) dX7_tallyKey_93 ⟨Nat.le_refl _, Nat.le_refl _⟩) hB.2.1 (fun v93 H93 locs hp hz hS => ?_)
              obtain ⟨rfl, hI1, hf, hR⟩ := hp
              have hB := th_B_c hB hI1 hS hf (by decide)
              have mm18 := (th_F_o hf h0 ro_27 (j := 7) (by decide) (by decide)).trans mm11
              have mm19 := (th_F_o hf h0 ro_27 (j := 8) (by decide) (by decide)).trans mm12
              have mm20 := (th_F_o hf hbn8 ro_3 (j := 7) (by decide) (by decide)).trans mm13
              have mm21 := (th_F_o hf h0 ro_27 (j := 0) (by decide) (by decide)).trans mb15
              have mc22 := th_fit_F mc14 h0 hf (by decide)
              refine W.eq (g2 := F0 m 96 ls []) rfl ?_
              refine lv_aload_n hx hb dX7_tallyKey_96 rfl (lv_at hl 2 rfl) ?_
              refine lv_iload hx hb dX7_tallyKey_97 (lv_at hl 5 rfl) ?_
              refine lv_iload hx hb dX7_tallyKey_99 (lv_at hl 1 rfl) ?_
              refine lv_iload_n hx hb dX7_tallyKey_101 rfl (lv_at hl 4 rfl) ?_
              refine lv_aload_n hx hb dX7_tallyKey_102 rfl (lv_at hl 2 rfl) ?_
              refine th_getK hC cf_X7 hB.1 h0 ro_27 rfl (j := 0) (by decide) mm21 kf_X7_12 dX7_tallyKey_103 ?_
              refine lv_iload hx hb dX7_tallyKey_106 (lv_at hl 0 rfl) ?_
              refine th_call (th_runV (As := [.int x17]) (rest := [.int p2, .int x1, .int j11_5, .ref a0]) hC mf_X3_valueIn km_X7_149 im_X3_valueIn se_X3_valueIn (c_X3_valueIn l G Γ H93 hB.1 hR b15 hb15 x17) rfl rfl ⟨Nat.le_of_ble_eq_true rfl, Nat.le_of_ble_eq_true rfl⟩ hB.1 hb15 ro_12 rfl rfl hl.1 rfl (Nat.le_of_ble_eq_true rfl) dX7_tallyKey_108 ⟨Nat.le_refl _, Nat.le_refl _⟩) hB.2.1 (fun v108 H108 locs hp hz hS => ?_)
              obtain ⟨x23, rfl, rfl⟩ := hp
              have hB := th_B_s hB hS
              refine W.eq (g2 := F0 m 111 ls [.int x23, .int p2, .int x1, .int j11_5, .ref a0]) rfl ?_
              refine lv_imul hx hb dX7_tallyKey_111 ?_
              refine lv_topi (fun x24 ex24 => ?_)
              have lx24 := ti_lo x24; have ux24 := ti_hi x24
              refine th_call (th_runV (As := [.int j11_5, .int x1, .int x24]) (rest := []) hC mf_X7_addToTally km_X7_222 im_X7_addToTally se_X7_addToTally (c_X7_addToTally l G Γ H93 hB.1 hR hU a0 h0 j11_5 (by omega) (by omega) x1 (by omega) (by omega) x24 ⟨_, mm19, hbn8⟩ mc22) rfl rfl ⟨Nat.le_of_ble_eq_true rfl, Nat.le_of_ble_eq_true rfl⟩ hB.1 h0 ro_27 rfl rfl hl.1 rfl (Nat.le_of_ble_eq_true rfl) dX7_tallyKey_112 ⟨Nat.le_refl _, Nat.le_refl _⟩) hB.2.1 (fun v112 H112 locs hp hz hS => ?_)
              obtain ⟨rfl, hI1, hf, hR⟩ := hp
              have hB := th_B_c hB hI1 hS hf (by decide)
              have mm25 := (th_F_o hf h0 ro_27 (j := 7) (by decide) (by decide)).trans mm18
              have mm26 := (th_F_o hf h0 ro_27 (j := 8) (by decide) (by decide)).trans mm19
              have mm27 := (th_F_o hf hbn8 ro_3 (j := 7) (by decide) (by decide)).trans mm20
              have mm28 := (th_F_o hf h0 ro_27 (j := 0) (by decide) (by decide)).trans mm21
              have mc29 := th_fit_F mc22 h0 hf (by decide)
              refine W.eq (g2 := F0 m 115 ls []) rfl ?_
              exact jn115 H112 locs ls hB hR (lv_sub hl [1, 2, 3, 4, 5] rfl)
            · refine lv_aload_n hx hb dX7_tallyKey_74 rfl (lv_at hl 2 rfl) ?_
              refine lv_iload hx hb dX7_tallyKey_75 (lv_at hl 5 rfl) ?_
              refine lv_iload hx hb dX7_tallyKey_77 (lv_at hl 1 rfl) ?_
              refine lv_iload_n hx hb dX7_tallyKey_79 rfl (lv_at hl 4 rfl) ?_
              refine th_call (th_runV (As := [.int j11_5, .int x1, .int p2]) (rest := []) hC mf_X7_addToTally km_X7_222 im_X7_addToTally se_X7_addToTally (c_X7_addToTally l G Γ H40 hB.1 hR hU a0 h0 j11_5 (by omega) (by omega) x1 (by omega) (by omega) p2 ⟨_, mm12, hbn8⟩ mc14) rfl rfl ⟨Nat.le_of_ble_eq_true rfl, Nat.le_of_ble_eq_true rfl⟩ hB.1 h0 ro_27 rfl rfl hl.1 rfl (Nat.le_of_ble_eq_true rfl) dX7_tallyKey_80 ⟨Nat.le_refl _, Nat.le_refl _⟩) hB.2.1 (fun v80 H80 locs hp hz hS => ?_)
              obtain ⟨rfl, hI1, hf, hR⟩ := hp
              have hB := th_B_c hB hI1 hS hf (by decide)
              have mm30 := (th_F_o hf h0 ro_27 (j := 7) (by decide) (by decide)).trans mm11
              have mm31 := (th_F_o hf h0 ro_27 (j := 8) (by decide) (by decide)).trans mm12
              have mm32 := (th_F_o hf hbn8 ro_3 (j := 7) (by decide) (by decide)).trans mm13
              have mm33 := (th_F_o hf h0 ro_27 (j := 0) (by decide) (by decide)).trans mb15
              have mc34 := th_fit_F mc14 h0 hf (by decide)
              refine W.eq (g2 := F0 m 83 ls []) rfl ?_
              refine lv_goto (tgt := 115) hx hb dX7_tallyKey_83 (by decide) ?_
              exact jn115 H80 locs ls hB hR (lv_sub hl [1, 2, 3, 4, 5] rfl)
          · refine lv_goto (tgt := 115) hx hb dX7_tallyKey_47 (by decide) ?_
            exact jn115 H40 locs ls hB hR (lv_sub hl [0, 1, 2, 3, 4] rfl)
  exact lp11 ((2147483648 : Int) - (0)).toNat H0 locs ls 0 hB hR (lv_sub hl [1, 2, 3, 4, 0] rfl) (by decide) (by decide) (by have w0 := tk_0; omega)
