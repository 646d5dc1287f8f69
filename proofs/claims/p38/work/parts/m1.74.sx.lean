section TSV
variable {G : th_G} {Γ : th_Ga} {H H1 : Heap} {L : List (Nat × Nat)} {b : Int}
/-- what changes memos alone leaves all other objects -/
theorem sv_M (hI : th_I G Γ H) (hI1 : th_I G Γ H1) (hF : th_F G Γ L H H1) (hL : L.all (fun p => p.1 == 12) = true) {m : Nat} {z : Int} (hb : ∀ a o : Nat, Γ a = (12, o) → b ≠ (a : Int)) : dv G Γ H1 b m z = dv G Γ H b m z := by
  have hin : ∀ r j, r ≠ 12 → th_in L r j = false := fun r j hr => by
    unfold th_in
    refine Bool.eq_false_iff.mpr (fun g => ?_)
    have h1 := List.all_eq_true.mp hL (r, j) (List.contains_iff_mem.mp g)
    exact hr (by simpa using h1)
  rcases dv_cs Γ b m z with h | ⟨hA, hz, r, o, k, fs, q, g1, g2, g3⟩
  · rw [dv_no h, dv_no h]
  · have r12 : r ≠ 12 := fun e => hb b.toNat o (by rw [← e]; exact g1) (by omega)
    refine dv_F hI hI1 hF (a := b.toNat) (by omega) g1 g2 g3 (hin _ _ r12) (fun q4 => hin _ _ (fun e => ?_))
    have e5 := (dv_ow g2 g3 q4).1
    have e6 : dv_own 12 = none := rfl
    rw [e, e6] at e5
    cases e5
end TSV
def s_X7_solve_S (d : Nat) : Prop := ∀ (l : Launch) (G : th_G) (Γ : th_Ga) (H0 : Heap) (hI : th_I G Γ H0) (hR : th_RC G Γ H0) (hU : dv_U Γ) (a0 : Nat) (h0 : Γ a0 = (27, 0)) (p1 : Int64) (p2 : Int32) (p3 : Int32) (f3 : 0 ≤ p3.toInt) (g3 : p3.toInt ≤ 144) (p4 : Int32) (f4 : 0 ≤ p4.toInt) (g4 : p4.toInt ≤ 9) (nn7 : ∃ b : Nat, th_sl H0 a0 (G.1.1.2 7 7) = .ref b ∧ Γ b = (11, 0)) (nn8 : ∃ b : Nat, th_sl H0 a0 (G.1.1.2 7 8) = .ref b ∧ Γ b = (3, 0)) (gV : dV) (gX : Int → Nat → Int → Prop) (gf gs : Int) (gn : Nat) (gr gq : Nat → Int → Int) (hS9 : sS gV (a0 : Int) gf gX gs gn gr gq) (hX9 : ∀ a o : Nat, Γ a = (12, o) → ∀ m z, gX (a : Int) m z) (hP9 : ∀ x y : Int, th_pm G x y ↔ sP gV (a0 : Int) gf gs gn gr x y) (hE9 : 1 ≤ gV (a0 : Int) 13 0) (hV9 : sV (a0 : Int) gX gV (dv G Γ H0) ∧ pC (a0 : Int) gq gV (dv G Γ H0)) (hK9 : sK gV gf p1.toInt p2.toInt p3.toInt p4.toInt.toNat) (u0 : Nat) (hu0 : th_bits G Γ H0 u0) (hdm : 9 ≤ p4.toInt + (d : Int)), Met l yX7_solve (.code yX7_solve cX7_solve 11 (some FieldType.int) :: th_tb) ({ frames := 5 + d, cells := (th_pc u0), slots := (th_pq u0), locals := 130 + d * 30 } : Room) (th_P [.ref a0, .long p1, .int p2, .int p3, .int p4] G H0) (th_Q (fun (v : Option Value) (H1 : Heap) => ∃ r : Int32, v = some (.int r) ∧ th_I G Γ H1 ∧ th_F G Γ [(24, 0), (23, 3), (26, 0), (25, 0), (28, 0), (29, 0), (12, 0), (12, 1), (12, 2), (12, 3), (12, 4), (12, 5), (12, 6), (31, 0), (27, 5)] H0 H1 ∧ th_RC G Γ H1 ∧ ((sV (a0 : Int) gX gV (dv G Γ H1) ∧ pC (a0 : Int) gq gV (dv G Γ H1)) ∧ sP gV (a0 : Int) gf gs gn gr p1.toInt r.toInt) ∧ th_bp G Γ H0 H1 u0) G) (th_pc u0) (th_pq u0) (fun q => G.1.2.2 ≤ q)
set_option maxHeartbeats 4000000 in
set_option maxRecDepth 100000 in
theorem c_X7_solve_S_s (d : Nat) (ihd : ∀ d', d = d' + 1 → s_X7_solve_S d') : s_X7_solve_S d := by
  intro l G Γ H0 hI hR hU a0 h0 p1 p2 p3 f3 g3 p4 f4 g4 nn7 nn8 gV gX gf gs gn gr gq hS9 hX9 hP9 hE9 hV9 hK9 u0 hu0 hdm
  refine th_met RX7 (by decide) rfl (Nat.le_of_ble_eq_true rfl) ?_
  intro p e s m below meth c hC hH hr hlocks hnm ls hl
  have hx := hC.1
  have hb := hC.2.1
  have hB : th_B G Γ Γ [(24, 0), (23, 3), (26, 0), (25, 0), (28, 0), (29, 0), (12, 0), (12, 1), (12, 2), (12, 3), (12, 4), (12, 5), (12, 6), (31, 0), (27, 5)] H0 H0 [] := ⟨hI, va_S.rf, th_F_rf⟩
  have hl : lv_has ls 11 [(0, .ref a0), (1, .long p1), (3, .int p2), (4, .int p3), (5, .int p4)] := hl
  have lp2 := ti_lo p2; have up2 := ti_hi p2
  have lp3 := ti_lo p3; have up3 := ti_hi p3
  have lp4 := ti_lo p4; have up4 := ti_hi p4
  obtain ⟨bn7, mbn7, hbn7⟩ := nn7
  obtain ⟨bn8, mbn8, hbn8⟩ := nn8
  have ku0 : th_pc u0 ≤ th_pc u0 ∧ th_pq u0 ≤ th_pq u0 := ⟨Nat.le_refl _, Nat.le_refl _⟩
  refine W.widen (k := th_pc u0 - th_pc u0) (n := th_pq u0 - th_pq u0) (Nat.zero_le _) (Nat.zero_le _) ?_
  refine lv_iload_n hx hb gX7_solve_0.1 rfl (lv_at hl 2 rfl) ?_
  have ef9 : gf = (bn8 : Int) := hS9.1.1.symm.trans ((sS_sa hS9 hV9.1 (by decide) 0).symm.trans (dv_getR h0 ro_27 (j := 8) rfl mbn8 (by decide)))
  refine tr_if_ne (tgt := 23) hx hb gX7_solve_0.2.1 (by decide) (Eq.refl _) (fun c1 => ?_) (fun c1 => ?_)
  · refine lv_aload_n hx hb gX7_solve_1.2.2.2.2.1 rfl (lv_at hl 0 rfl) ?_
    refine th_getR (j := 0) (r2 := 12) hC cf_X7 hB.1 h0 ro_27 rfl rfl kf_X7_12 gX7_solve_1.2.2.2.2.2.1 (fun b1 mb1 hb1 => ?_)
    refine lv_lload_n hx hb gX7_solve_1.2.2.2.2.2.2.1 rfl (lv_at hl 1 rfl) ?_
    refine th_call (th_runV (As := [.long p1]) (rest := []) hC mf_X3_find km_X7_145 im_X3_find se_X3_find (c_X3_find l G Γ H0 hB.1 hR b1 hb1 p1) rfl rfl ⟨by dsimp only; omega, by dsimp only; omega⟩ hB.1 hb1 ro_12 rfl rfl hl.1 rfl (Nat.le_of_ble_eq_true rfl) gX7_solve_1.2.2.2.2.2.2.2 ⟨by dsimp only; omega, by dsimp only; omega⟩) hB.2.1 (fun v28 H28 locs hp hz hS => ?_)
    obtain ⟨x2, rfl, lx2, ux2, q28_0, rfl⟩ := hp
    have hB := th_B_s hB hS
    refine W.eq (g2 := F0 m 31 ls [.int x2]) rfl ?_
    refine lv_istore (lv' := [(6, .int x2), (0, .ref a0), (1, .long p1), (3, .int p2), (4, .int p3), (5, .int p4)]) hx hb gX7_solve_2.1 hl (by decide) rfl (fun ls hl => ?_)
    refine lv_iload hx hb gX7_solve_2.2.1 (lv_at hl 0 rfl) ?_
    refine lv_iconst (v := (-1)) hx hb gX7_solve_2.2.2.1 (by decide) ?_
    refine tr_icmp_eq (tgt := 49) hx hb gX7_solve_2.2.2.2.1 (by decide) (Eq.refl _) tk_m1 (fun c36 => ?_) (fun c36 => ?_)
    · refine lv_aload_n hx hb gX7_solve_3.2.1 rfl (lv_at hl 1 rfl) ?_
      refine lv_lload_n hx hb gX7_solve_3.2.2.1 rfl (lv_at hl 2 rfl) ?_
      refine lv_iload hx hb gX7_solve_3.2.2.2.1 (lv_at hl 4 rfl) ?_
      refine th_call (th_runV (As := [.long p1, .int p3]) (rest := []) hC mf_X7_firstBare km_X7_104 im_X7_firstBare se_X7_firstBare (c_X7_firstBare l G Γ H0 hB.1 hU a0 h0 p1 p3 (by omega) (by omega) ⟨_, mbn8, hbn8⟩) rfl rfl ⟨by dsimp only; omega, by dsimp only; omega⟩ hB.1 h0 ro_27 rfl rfl hl.1 rfl (Nat.le_of_ble_eq_true rfl) gX7_solve_3.2.2.2.2.1 ⟨by dsimp only; omega, by dsimp only; omega⟩) hB.2.1 (fun v53 H53 locs hp hz hS => ?_)
      obtain ⟨x3, rfl, lx3, ux3, q53_0, rfl⟩ := hp
      have hB := th_B_s hB hS
      refine W.eq (g2 := F0 m 56 ls [.int x3]) rfl ?_
      obtain ⟨hb9, hc9⟩ := s_first hS9 hV9.1 hK9 (by omega) q53_0
      refine lv_istore (lv' := [(7, .int x3), (6, .int x2), (0, .ref a0), (1, .long p1), (3, .int p2), (4, .int p3), (5, .int p4)]) hx hb gX7_solve_3.2.2.2.2.2.1 hl (by decide) rfl (fun ls hl => ?_)
      refine lv_aload_n hx hb gX7_solve_3.2.2.2.2.2.2.1 rfl (lv_at hl 2 rfl) ?_
      refine th_getI (j := 12) hC cf_X7 hB.1 h0 ro_27 rfl rfl kf_X7_131 gX7_solve_3.2.2.2.2.2.2.2 (fun x4 mx4 lx4 ux4 => ?_)
      have ec9 : gV (a0 : Int) 12 0 = x4.toInt := (sS_sa hS9 hV9.1 (by decide) 0).symm.trans (dv_getI h0 ro_27 (j := 12) rfl mx4 (by decide))
      have jn70 : ∀ (locs : List Loc) (ls : Array Slot) (s70_0 : Int32), th_B G Γ Γ [(24, 0), (23, 3), (26, 0), (25, 0), (28, 0), (29, 0), (12, 0), (12, 1), (12, 2), (12, 3), (12, 4), (12, 5), (12, 6), (31, 0), (27, 5)] H0 H0 locs → lv_has ls 11 [(7, .int x3), (0, .ref a0), (1, .long p1), (3, .int p2), (5, .int p4)] → (-1) ≤ s70_0.toInt → s70_0.toInt ≤ 0 → (gV (a0 : Int) 12 0 = 0 → s70_0.toInt = 0) ∧ (gV (a0 : Int) 12 0 ≠ 0 → s70_0.toInt = -1) → W p l e ({ frames := 5 + d, cells := (th_pc u0), slots := (th_pq u0), locals := 130 + d * 30 } : Room) s m ([.ref a0, .long p1, .int p2, .int p3, .int p4] : List Value).toArray below meth c H0 locs (th_pc u0 - th_pc u0) (th_pq u0 - th_pq u0) (MQ below (th_Q (fun (v : Option Value) (H1 : Heap) => ∃ r : Int32, v = some (.int r) ∧ th_I G Γ H1 ∧ th_F G Γ [(24, 0), (23, 3), (26, 0), (25, 0), (28, 0), (29, 0), (12, 0), (12, 1), (12, 2), (12, 3), (12, 4), (12, 5), (12, 6), (31, 0), (27, 5)] H0 H1 ∧ th_RC G Γ H1 ∧ ((sV (a0 : Int) gX gV (dv G Γ H1) ∧ pC (a0 : Int) gq gV (dv G Γ H1)) ∧ sP gV (a0 : Int) gf gs gn gr p1.toInt r.toInt) ∧ th_bp G Γ H0 H1 u0) G) ([.ref a0, .long p1, .int p2, .int p3, .int p4] : List Value).toArray s (th_pc u0) (th_pq u0) (fun q => G.1.2.2 ≤ q)) (F0 m 70 ls [.int s70_0]) := by
        intro locs ls s70_0 hB hl g70_0 g70_1 g70_2
        have ls70_0 := ti_lo s70_0; have us70_0 := ti_hi s70_0
        refine lv_istore (lv' := [(8, .int s70_0), (7, .int x3), (0, .ref a0), (1, .long p1), (3, .int p2), (5, .int p4)]) hx hb gX7_solve_4.2.2.2.2.1 hl (by decide) rfl (fun ls hl => ?_)
        refine lv_iconst (v := 0) hx hb gX7_solve_4.2.2.2.2.2.1 (by decide) ?_
        refine lv_istore (lv' := [(9, .int 0), (8, .int s70_0), (7, .int x3), (0, .ref a0), (1, .long p1), (3, .int p2), (5, .int p4)]) hx hb gX7_solve_4.2.2.2.2.2.2.1 hl (by decide) rfl (fun ls hl => ?_)
        have lp75 : ∀ (n75 : Nat) (H75 : Heap) (u75 : Nat) (locs : List Loc) (ls : Array Slot) (j75_8 : Int32) (j75_9 : Int32), th_B G Γ Γ [(24, 0), (23, 3), (26, 0), (25, 0), (28, 0), (29, 0), (12, 0), (12, 1), (12, 2), (12, 3), (12, 4), (12, 5), (12, 6), (31, 0), (27, 5)] H0 H75 locs → th_RC G Γ H75 → lv_has ls 11 [(7, .int x3), (0, .ref a0), (1, .long p1), (3, .int p2), (5, .int p4), (8, .int j75_8), (9, .int j75_9)] → 0 ≤ j75_9.toInt → j75_9.toInt ≤ 9 → sLp gV (dv G Γ H75) (a0 : Int) gf gX gs gn gr gq p1.toInt x3.toInt p4.toInt.toNat j75_9.toInt.toNat j75_8.toInt → th_bits G Γ H75 u75 → (th_pc u75 ≤ th_pc u0 ∧ th_pq u75 ≤ th_pq u0) → (2147483648 : Int) - j75_9.toInt ≤ (n75 : Int) → W p l e ({ frames := 5 + d, cells := (th_pc u0), slots := (th_pq u0), locals := 130 + d * 30 } : Room) s m ([.ref a0, .long p1, .int p2, .int p3, .int p4] : List Value).toArray below meth c H75 locs (th_pc u0 - th_pc u75) (th_pq u0 - th_pq u75) (MQ below (th_Q (fun (v : Option Value) (H1 : Heap) => ∃ r : Int32, v = some (.int r) ∧ th_I G Γ H1 ∧ th_F G Γ [(24, 0), (23, 3), (26, 0), (25, 0), (28, 0), (29, 0), (12, 0), (12, 1), (12, 2), (12, 3), (12, 4), (12, 5), (12, 6), (31, 0), (27, 5)] H0 H1 ∧ th_RC G Γ H1 ∧ ((sV (a0 : Int) gX gV (dv G Γ H1) ∧ pC (a0 : Int) gq gV (dv G Γ H1)) ∧ sP gV (a0 : Int) gf gs gn gr p1.toInt r.toInt) ∧ th_bp G Γ H0 H1 u0) G) ([.ref a0, .long p1, .int p2, .int p3, .int p4] : List Value).toArray s (th_pc u0) (th_pq u0) (fun q => G.1.2.2 ≤ q)) (F0 m 75 ls []) := by
          intro n75
          induction n75 with
          | zero => intro H75 u75 locs ls j75_8 j75_9 hB hR hl g75_0 g75_1 g75_2 g75_3 g75_4 hm75; exact absurd hm75 (by have := ti_hi j75_9; omega)
          | succ n75 ih75 =>
            intro H75 u75 locs ls j75_8 j75_9 hB hR hl g75_0 g75_1 g75_2 g75_3 g75_4 hm75
            have lj75_8 := ti_lo j75_8; have uj75_8 := ti_hi j75_8
            have lj75_9 := ti_lo j75_9; have uj75_9 := ti_hi j75_9
            have mm5 := (th_F_o hB.2.2 h0 ro_27 (j := 7) (by decide) (by decide)).trans mbn7
            have mm6 := (th_F_o hB.2.2 h0 ro_27 (j := 8) (by decide) (by decide)).trans mbn8
            have mm7 := (th_F_o hB.2.2 h0 ro_27 (j := 0) (by decide) (by decide)).trans mb1
            have mm8 := (th_F_o hB.2.2 h0 ro_27 (j := 12) (by decide) (by decide)).trans mx4
            have hm75 : (2147483648 : Int) - j75_9.toInt ≤ (n75 : Int) + 1 := by omega
            refine lv_iload hx hb gX7_solve_4.2.2.2.2.2.2.2 (lv_at hl 6 rfl) ?_
            refine lv_aload_n hx hb gX7_solve_5.1 rfl (lv_at hl 1 rfl) ?_
            refine th_getK hC cf_X7 hB.1 h0 ro_27 rfl (j := 8) (by decide) mm6 kf_X7_38 gX7_solve_5.2.1 ?_
            refine th_getI (j := 7) hC cf_X1 hB.1 hbn8 ro_3 rfl rfl kf_X7_123 gX7_solve_5.2.2.1 (fun x9 mx9 lx9 ux9 => ?_)
            have sx9 := (th_F_o hB.2.2 hbn8 ro_3 (j := 7) (by decide) (by decide)).symm.trans mx9
            have en9 : x9.toInt = (gn : Int) := (dv_getI hbn8 ro_3 (j := 7) rfl mx9 (by decide)).symm.trans (by rw [← ef9, sS_fl hS9 g75_2.1.1]; exact hS9.1.2.2)
            have ej9 : ((j75_9.toInt.toNat : Nat) : Int) = j75_9.toInt := Int.toNat_of_nonneg (by omega)
            have jn228 : ∀ (locs : List Loc) (ls : Array Slot) , th_B G Γ Γ [(24, 0), (23, 3), (26, 0), (25, 0), (28, 0), (29, 0), (12, 0), (12, 1), (12, 2), (12, 3), (12, 4), (12, 5), (12, 6), (31, 0), (27, 5)] H0 H75 locs → lv_has ls 11 [(0, .ref a0), (1, .long p1), (8, .int j75_8)] → sP gV (a0 : Int) gf gs gn gr p1.toInt j75_8.toInt → W p l e ({ frames := 5 + d, cells := (th_pc u0), slots := (th_pq u0), locals := 130 + d * 30 } : Room) s m ([.ref a0, .long p1, .int p2, .int p3, .int p4] : List Value).toArray below meth c H75 locs (th_pc u0 - th_pc u75) (th_pq u0 - th_pq u75) (MQ below (th_Q (fun (v : Option Value) (H1 : Heap) => ∃ r : Int32, v = some (.int r) ∧ th_I G Γ H1 ∧ th_F G Γ [(24, 0), (23, 3), (26, 0), (25, 0), (28, 0), (29, 0), (12, 0), (12, 1), (12, 2), (12, 3), (12, 4), (12, 5), (12, 6), (31, 0), (27, 5)] H0 H1 ∧ th_RC G Γ H1 ∧ ((sV (a0 : Int) gX gV (dv G Γ H1) ∧ pC (a0 : Int) gq gV (dv G Γ H1)) ∧ sP gV (a0 : Int) gf gs gn gr p1.toInt r.toInt) ∧ th_bp G Γ H0 H1 u0) G) ([.ref a0, .long p1, .int p2, .int p3, .int p4] : List Value).toArray s (th_pc u0) (th_pq u0) (fun q => G.1.2.2 ≤ q)) (F0 m 228 ls []) := by
              intro locs ls hB hl g228_0
              refine lv_aload_n hx hb gX7_solve_14.2.2.1 rfl (lv_at hl 0 rfl) ?_
              refine th_getK hC cf_X7 hB.1 h0 ro_27 rfl (j := 0) (by decide) mm7 kf_X7_12 gX7_solve_14.2.2.2.1 ?_
              refine lv_lload_n hx hb gX7_solve_14.2.2.2.2.1 rfl (lv_at hl 1 rfl) ?_
              refine lv_iload hx hb gX7_solve_14.2.2.2.2.2.1 (lv_at hl 2 rfl) ?_
              have hIo := hB.1
              refine W.count (fun hc1 hc2 => ?_)
              refine th_call (th_runV (As := [.long p1, .int j75_8]) (rest := []) hC mf_X3_keep km_X7_160 im_X3_keep se_X3_keep (c_X3_keep l G Γ H75 hB.1 hR b1 hb1 p1 j75_8 (fun _ => (hP9 _ _).mpr g228_0) u75 g75_3) rfl rfl ⟨by dsimp only; omega, by dsimp only; omega⟩ hB.1 hb1 ro_12 rfl rfl hl.1 rfl (Nat.le_of_ble_eq_true rfl) gX7_solve_14.2.2.2.2.2.2.1 ⟨by dsimp only; omega, by dsimp only; omega⟩) hB.2.1 (fun v235 H235 locs hp hz hS => ?_)
              obtain ⟨rfl, hI1, hf, hR, ⟨u235, hu235, ka235, kb235, kc235, kd235⟩⟩ := hp
              have hB := th_B_c hB hI1 hS hf (by decide)
              have mm10 := (th_F_o hf h0 ro_27 (j := 7) (by decide) (by decide)).trans mm5
              have mm11 := (th_F_o hf h0 ro_27 (j := 8) (by decide) (by decide)).trans mm6
              have mm12 := (th_F_o hf h0 ro_27 (j := 0) (by decide) (by decide)).trans mm7
              have mm13 := (th_F_o hf h0 ro_27 (j := 12) (by decide) (by decide)).trans mm8
              have mm14 := (th_F_o hf hbn8 ro_3 (j := 7) (by decide) (by decide)).trans mx9
              have ku235 : th_pc u235 ≤ th_pc u0 ∧ th_pq u235 ≤ th_pq u0 := by omega
              refine W.tight (k := th_pc u0 - th_pc u235) (n := th_pq u0 - th_pq u235) (by omega) (by omega) ?_
              refine W.eq (g2 := F0 m 238 ls []) rfl ?_
              have hW8 := s_VX hS9.2.2.2.2.1.1 g75_2.1 (fun b m z nb => sv_M hIo hB.1 hf (by decide) (fun a o q e => nb (by rw [e]; exact hX9 a o q _ _)))
              refine lv_iload hx hb gX7_solve_14.2.2.2.2.2.2.2 (lv_at hl 2 rfl) ?_
              refine W.count (fun hc1 hc2 => ?_)
              rw [hH] at hc1 hc2
              refine W.widen (k := th_pc u0) (n := th_pq u0) (Nat.sub_le _ _) (Nat.sub_le _ _) ?_
              exact th_iret hC hH hr hlocks rfl hB.2.1 ⟨_, rfl, hB.1, hB.2.2, hR, ⟨hW8, g228_0⟩, ⟨u235, hu235, ku235.1, ku235.2, by omega, by omega⟩⟩ gX7_solve_15
            refine tr_icmp_ge (tgt := 228) hx hb gX7_solve_5.2.2.2.1 (by decide) (Eq.refl _) (Eq.refl _) (fun c84 => ?_) (fun c84 => ?_)
            · exact jn228 locs ls hB (lv_sub hl [1, 2, 5] rfl) (s_exit hS9 g75_2 hK9 (by first | exact Or.inl (by omega) | exact Or.inr (Or.inl (by omega)) | exact Or.inr (Or.inr ⟨by omega, by omega⟩)))
            · refine lv_iload hx hb gX7_solve_5.2.2.2.2.1 (lv_at hl 4 rfl) ?_
              refine lv_bipush (v := 9) hx hb gX7_solve_5.2.2.2.2.2.1 (by decide) ?_
              refine tr_icmp_ge (tgt := 228) hx hb gX7_solve_5.2.2.2.2.2.2.1 (by decide) (Eq.refl _) tk_9 (fun c91 => ?_) (fun c91 => ?_)
              · exact jn228 locs ls hB (lv_sub hl [1, 2, 5] rfl) (s_exit hS9 g75_2 hK9 (by first | exact Or.inl (by omega) | exact Or.inr (Or.inl (by omega)) | exact Or.inr (Or.inr ⟨by omega, by omega⟩)))
              · refine lv_aload_n hx hb gX7_solve_5.2.2.2.2.2.2.2 rfl (lv_at hl 1 rfl) ?_
                refine th_getK hC cf_X7 hB.1 h0 ro_27 rfl (j := 12) (by decide) mm8 kf_X7_131 gX7_solve_6.1 ?_
                have jn110 : ∀ (locs : List Loc) (ls : Array Slot) , th_B G Γ Γ [(24, 0), (23, 3), (26, 0), (25, 0), (28, 0), (29, 0), (12, 0), (12, 1), (12, 2), (12, 3), (12, 4), (12, 5), (12, 6), (31, 0), (27, 5)] H0 H75 locs → lv_has ls 11 [(7, .int x3), (0, .ref a0), (1, .long p1), (3, .int p2), (5, .int p4), (8, .int j75_8), (9, .int j75_9)] → (gV (a0 : Int) 12 0 = 0 → j75_8.toInt < gV (a0 : Int) 13 0) → W p l e ({ frames := 5 + d, cells := (th_pc u0), slots := (th_pq u0), locals := 130 + d * 30 } : Room) s m ([.ref a0, .long p1, .int p2, .int p3, .int p4] : List Value).toArray below meth c H75 locs (th_pc u0 - th_pc u75) (th_pq u0 - th_pq u75) (MQ below (th_Q (fun (v : Option Value) (H1 : Heap) => ∃ r : Int32, v = some (.int r) ∧ th_I G Γ H1 ∧ th_F G Γ [(24, 0), (23, 3), (26, 0), (25, 0), (28, 0), (29, 0), (12, 0), (12, 1), (12, 2), (12, 3), (12, 4), (12, 5), (12, 6), (31, 0), (27, 5)] H0 H1 ∧ th_RC G Γ H1 ∧ ((sV (a0 : Int) gX gV (dv G Γ H1) ∧ pC (a0 : Int) gq gV (dv G Γ H1)) ∧ sP gV (a0 : Int) gf gs gn gr p1.toInt r.toInt) ∧ th_bp G Γ H0 H1 u0) G) ([.ref a0, .long p1, .int p2, .int p3, .int p4] : List Value).toArray s (th_pc u0) (th_pq u0) (fun q => G.1.2.2 ≤ q)) (F0 m 110 ls []) := by
                  intro locs ls hB hl g110_0
                  refine lv_aload_n hx hb gX7_solve_6.2.2.2.2.2.2.1 rfl (lv_at hl 1 rfl) ?_
                  refine lv_lload_n hx hb gX7_solve_6.2.2.2.2.2.2.2 rfl (lv_at hl 2 rfl) ?_
                  refine lv_iload hx hb gX7_solve_7.1 (lv_at hl 6 rfl) ?_
                  refine lv_iload hx hb gX7_solve_7.2.1 (lv_at hl 0 rfl) ?_
                  refine th_call (th_runV (As := [.long p1, .int j75_9, .int x3]) (rest := []) hC mf_X7_fits km_X7_108 im_X7_fits se_X7_fits (c_X7_fits l G Γ H75 hB.1 hU a0 h0 p1 j75_9 x3 (by omega) (by omega) ⟨_, mm6, hbn8⟩) rfl rfl ⟨by dsimp only; omega, by dsimp only; omega⟩ hB.1 h0 ro_27 rfl rfl hl.1 rfl (Nat.le_of_ble_eq_true rfl) gX7_solve_7.2.2.1 ⟨by dsimp only; omega, by dsimp only; omega⟩) hB.2.1 (fun v116 H116 locs hp hz hS => ?_)
                  obtain ⟨x15, rfl, lx15, ux15, q116_0, q116_1, q116_2, q116_3, rfl⟩ := hp
                  have hB := th_B_s hB hS
                  refine W.eq (g2 := F0 m 119 ls [.int x15]) rfl ?_
                  have hq9 : f_X7_fits (dv G Γ H75) (a0 : Int) p1.toInt ((j75_9.toInt.toNat : Nat) : Int) x3.toInt = (x15.toInt, ()) := by rw [ej9]; exact q116_3
                  have jn222 : ∀ (H222 : Heap) (u222 : Nat) (locs : List Loc) (ls : Array Slot) (j222_8 : Int32), th_B G Γ Γ [(24, 0), (23, 3), (26, 0), (25, 0), (28, 0), (29, 0), (12, 0), (12, 1), (12, 2), (12, 3), (12, 4), (12, 5), (12, 6), (31, 0), (27, 5)] H0 H222 locs → th_RC G Γ H222 → lv_has ls 11 [(7, .int x3), (0, .ref a0), (1, .long p1), (3, .int p2), (5, .int p4), (9, .int j75_9), (8, .int j222_8)] → sLp gV (dv G Γ H222) (a0 : Int) gf gX gs gn gr gq p1.toInt x3.toInt p4.toInt.toNat (j75_9.toInt.toNat + 1) j222_8.toInt → th_bits G Γ H222 u222 → (th_pc u222 ≤ th_pc u0 ∧ th_pq u222 ≤ th_pq u0) → W p l e ({ frames := 5 + d, cells := (th_pc u0), slots := (th_pq u0), locals := 130 + d * 30 } : Room) s m ([.ref a0, .long p1, .int p2, .int p3, .int p4] : List Value).toArray below meth c H222 locs (th_pc u0 - th_pc u222) (th_pq u0 - th_pq u222) (MQ below (th_Q (fun (v : Option Value) (H1 : Heap) => ∃ r : Int32, v = some (.int r) ∧ th_I G Γ H1 ∧ th_F G Γ [(24, 0), (23, 3), (26, 0), (25, 0), (28, 0), (29, 0), (12, 0), (12, 1), (12, 2), (12, 3), (12, 4), (12, 5), (12, 6), (31, 0), (27, 5)] H0 H1 ∧ th_RC G Γ H1 ∧ ((sV (a0 : Int) gX gV (dv G Γ H1) ∧ pC (a0 : Int) gq gV (dv G Γ H1)) ∧ sP gV (a0 : Int) gf gs gn gr p1.toInt r.toInt) ∧ th_bp G Γ H0 H1 u0) G) ([.ref a0, .long p1, .int p2, .int p3, .int p4] : List Value).toArray s (th_pc u0) (th_pq u0) (fun q => G.1.2.2 ≤ q)) (F0 m 222 ls []) := by
                    intro H222 u222 locs ls j222_8 hB hR hl g222_0 g222_1 g222_2
                    have lj222_8 := ti_lo j222_8; have uj222_8 := ti_hi j222_8
                    have mm16 := (th_F_o hB.2.2 h0 ro_27 (j := 7) (by decide) (by decide)).trans mbn7
                    have mm17 := (th_F_o hB.2.2 h0 ro_27 (j := 8) (by decide) (by decide)).trans mbn8
                    have mm18 := (th_F_o hB.2.2 h0 ro_27 (j := 0) (by decide) (by decide)).trans mb1
                    have mm19 := (th_F_o hB.2.2 h0 ro_27 (j := 12) (by decide) (by decide)).trans mx4
                    have mm20 := (th_F_o hB.2.2 hbn8 ro_3 (j := 7) (by decide) (by decide)).trans sx9
                    refine tr_iinc (fun x21 => [(9, .int x21), (7, .int x3), (0, .ref a0), (1, .long p1), (3, .int p2), (5, .int p4), (8, .int j222_8)]) hx hb gX7_solve_14.1 hl (k := 5) rfl (Eq.refl _) tk_1 (by omega) (by omega) (by decide) (fun _ => rfl) (fun x21 ls ex21 hl => ?_)
                    refine lv_goto (tgt := 75) hx hb gX7_solve_14.2.1 (by decide) ?_
                    exact ih75 H222 u222 locs ls j222_8 x21 hB hR (lv_sub hl [1, 2, 3, 4, 5, 6, 0] rfl) (by omega) (by omega) (by rw [show x21.toInt.toNat = j75_9.toInt.toNat + 1 from by omega]; exact g222_0) g222_1 g222_2 (by omega)
                  refine tr_if_eq (tgt := 222) hx hb gX7_solve_7.2.2.2.1 (by decide) (Eq.refl _) (fun c119 => ?_) (fun c119 => ?_)
                  · exact jn222 H75 u75 locs ls j75_8 hB hR (lv_sub hl [0, 1, 2, 3, 4, 6, 5] rfl) (s_no1 hS9 g75_2 (by omega) (by omega) hq9 (by omega)) g75_3 g75_4
                  · refine lv_aload_n hx hb gX7_solve_7.2.2.2.2.1 rfl (lv_at hl 1 rfl) ?_
                    refine lv_iload hx hb gX7_solve_7.2.2.2.2.2.1 (lv_at hl 6 rfl) ?_
                    refine lv_iload hx hb gX7_solve_7.2.2.2.2.2.2.1 (lv_at hl 0 rfl) ?_
                    refine th_call (th_runV (As := [.int j75_9, .int x3]) (rest := []) hC mf_X7_priceAt km_X7_112 im_X7_priceAt se_X7_priceAt (c_X7_priceAt l G Γ H75 hB.1 hR hU a0 h0 j75_9 (by omega) (by omega) x3 (by omega) (by omega) ⟨_, mm5, hbn7⟩ ⟨_, mm6, hbn8⟩) rfl rfl ⟨by dsimp only; omega, by dsimp only; omega⟩ hB.1 h0 ro_27 rfl rfl hl.1 rfl (Nat.le_of_ble_eq_true rfl) gX7_solve_7.2.2.2.2.2.2.2 ⟨by dsimp only; omega, by dsimp only; omega⟩) hB.2.1 (fun v127 H127 locs hp hz hS => ?_)
                    obtain ⟨x22, rfl, hI1, hf, hR, z127_0⟩ := hp
                    have hB := th_B_c hB hI1 hS hf (by decide)
                    have mm23 := (th_F_o hf h0 ro_27 (j := 7) (by decide) (by decide)).trans mm5
                    have mm24 := (th_F_o hf h0 ro_27 (j := 8) (by decide) (by decide)).trans mm6
                    have mm25 := (th_F_o hf h0 ro_27 (j := 0) (by decide) (by decide)).trans mm7
                    have mm26 := (th_F_o hf h0 ro_27 (j := 12) (by decide) (by decide)).trans mm8
                    have mm27 := (th_F_o hf hbn8 ro_3 (j := 7) (by decide) (by decide)).trans mx9
                    have mu28 := th_bits_F hf g75_3 (by decide)
                    refine W.eq (g2 := F0 m 130 ls [.int x22]) rfl ?_
                    have hz9 : f_X7_priceAt (dv G Γ H75) (a0 : Int) ((j75_9.toInt.toNat : Nat) : Int) x3.toInt = (dv G Γ H127, x22.toInt) := by rw [ej9]; exact z127_0
                    have hp9 := s_pr hS9 g75_2.1 (by omega) (by omega) (by omega) hz9
                    refine lv_iconst (v := (-1)) hx hb gX7_solve_8.1 (by decide) ?_
                    refine tr_icmp_ne (tgt := 137) hx hb gX7_solve_8.2.1 (by decide) (Eq.refl _) tk_m1 (fun c131 => ?_) (fun c131 => ?_)
                    · refine lv_aload_n hx hb gX7_solve_8.2.2.2.1 rfl (lv_at hl 1 rfl) ?_
                      have ho9 := s_ok hS9 g75_2 (by omega) hq9 (by omega) (fun q => absurd (hp9.2.1.mpr q) (by omega))
                      refine th_getO (j := 4) (r2 := 31) hC cf_X7 hB.1 h0 ro_27 rfl rfl kf_X7_28 gX7_solve_8.2.2.2.2.1 (fun b29 mb29 hb29 => ?_)
                      have sb29 := (th_F_o hB.2.2 h0 ro_27 (j := 4) (by decide) (by decide)).symm.trans mb29
                      refine lv_iload hx hb gX7_solve_8.2.2.2.2.2.1 (lv_at hl 4 rfl) ?_
                      refine lv_iload hx hb gX7_solve_8.2.2.2.2.2.2.1 (lv_at hl 6 rfl) ?_
                      have hIo := hB.1
                      refine th_iastF hC hB hb29 (Or.inl hb29) ro_31 rfl (by decide) (Eq.refl _) (by omega) (by omega) th_sIa gX7_solve_8.2.2.2.2.2.2.2 (fun H145 locs hB hf145 hst145 => ?_)
                      have hf := hf145
                      have mm30 := (th_F_o hf h0 ro_27 (j := 7) (by decide) (by decide)).trans mm23
                      have mm31 := (th_F_o hf h0 ro_27 (j := 8) (by decide) (by decide)).trans mm24
                      have mm32 := (th_F_o hf h0 ro_27 (j := 0) (by decide) (by decide)).trans mm25
                      have mm33 := (th_F_o hf h0 ro_27 (j := 12) (by decide) (by decide)).trans mm26
                      have mm34 := (th_F_o hf hbn8 ro_3 (j := 7) (by decide) (by decide)).trans mm27
                      have mm35 := (th_F_o hf h0 ro_27 (j := 4) (by decide) (by decide)).trans mb29
                      have mu36 := th_bits_F hf mu28 (by decide)
                      have hR := th_RC_F hB.1 hR hf (th_T_s hb29 ro_31 hst145) (by decide)
                      have hW9 := s_V4 hp9.1 (dv_stoI hIo hB.1 hU hb29 ow_31 (i := p4.toInt) hst145 (Eq.refl (j75_9.toInt)) (by omega))
                      refine lv_aload_n hx hb gX7_solve_9.1 rfl (lv_at hl 1 rfl) ?_
                      refine lv_aload_n hx hb gX7_solve_9.2.1 rfl (lv_at hl 1 rfl) ?_
                      refine lv_lload_n hx hb gX7_solve_9.2.2.1 rfl (lv_at hl 2 rfl) ?_
                      refine lv_iload hx hb gX7_solve_9.2.2.2.1 (lv_at hl 6 rfl) ?_
                      refine lv_iload hx hb gX7_solve_9.2.2.2.2.1 (lv_at hl 0 rfl) ?_
                      refine th_call (th_runV (As := [.long p1, .int j75_9, .int x3]) (rest := [.ref a0]) hC mf_X7_keyWith km_X7_152 im_X7_keyWith se_X7_keyWith (c_X7_keyWith l G Γ H145 hB.1 hU a0 h0 p1 j75_9 (by omega) (by omega) x3 (by omega) (by omega) ⟨_, mm31, hbn8⟩) rfl rfl ⟨by dsimp only; omega, by dsimp only; omega⟩ hB.1 h0 ro_27 rfl rfl hl.1 rfl (Nat.le_of_ble_eq_true rfl) gX7_solve_9.2.2.2.2.2.1 ⟨by dsimp only; omega, by dsimp only; omega⟩) hB.2.1 (fun v153 H153 locs hp hz hS => ?_)
                      obtain ⟨y37, rfl, q153_0, rfl⟩ := hp
                      have hB := th_B_s hB hS
                      refine W.eq (g2 := F0 m 156 ls [.long y37, .ref a0]) rfl ?_
                      have hk9 := s_call hS9 g75_2 hK9 (c := j75_9.toInt.toNat) (k' := y37.toInt) (by omega) (by omega) ho9.1.1 ho9.1.2 hW9.1 (by rw [ej9]; exact q153_0)
                      refine lv_iload_n hx hb gX7_solve_9.2.2.2.2.2.2.1 rfl (lv_at hl 3 rfl) ?_
                      refine lv_aload_n hx hb gX7_solve_9.2.2.2.2.2.2.2 rfl (lv_at hl 1 rfl) ?_
                      refine th_getK hC cf_X7 hB.1 h0 ro_27 rfl (j := 8) (by decide) mm31 kf_X7_38 gX7_solve_10.1 ?_
                      refine th_getO (j := 0) (r2 := 4) hC cf_X1 hB.1 hbn8 ro_3 rfl rfl kf_X7_87 gX7_solve_10.2.1 (fun b38 mb38 hb38 => ?_)
                      have sb38 := (th_F_o hB.2.2 hbn8 ro_3 (j := 0) (by decide) (by decide)).symm.trans mb38
                      refine lv_iload hx hb gX7_solve_10.2.2.1 (lv_at hl 6 rfl) ?_
                      refine th_ialdF hC hB.1 hb38 ro_4 rfl (Eq.refl _) (by omega) (by omega) rfl gX7_solve_10.2.2.2.1 (fun x39 mx39 lx39 ux39 => ?_)
                      have es9 := dv_aldI hB.1 hU hb38 ow_4 (z := j75_9.toInt) mx39 (by omega)
                      have ev9 : gV gf 0 ((j75_9.toInt.toNat : Nat) : Int) = x39.toInt := by rw [ej9, ← sS_fl hS9 hW9.1, ef9]; exact es9
                      refine lv_aload_n hx hb gX7_solve_10.2.2.2.2.1 rfl (lv_at hl 1 rfl) ?_
                      refine th_getK hC cf_X7 hB.1 h0 ro_27 rfl (j := 8) (by decide) mm31 kf_X7_38 gX7_solve_10.2.2.2.2.2.1 ?_
                      refine th_getK hC cf_X1 hB.1 hbn8 ro_3 rfl (j := 0) (by decide) mb38 kf_X7_87 gX7_solve_10.2.2.2.2.2.2.1 ?_
                      refine lv_iload hx hb gX7_solve_10.2.2.2.2.2.2.2 (lv_at hl 6 rfl) ?_
                      refine th_ialdF hC hB.1 hb38 ro_4 rfl (Eq.refl _) (by omega) (by omega) rfl gX7_solve_11.1 (fun x40 mx40 lx40 ux40 => ?_)
                      have qx40 : x40.toInt = x39.toInt := by rw [show x40 = x39 from Value.int.inj (mx40.symm.trans mx39)]
                      have q42 := ti_mulr (a := x39.toInt) (b := x40.toInt) (A := 12) (B := 12) (by omega) (by omega) (by omega) (by omega)
                      generalize hex41 : x39.toInt * x40.toInt = wx41 at q42
                      refine tr_imul hx hb gX7_solve_11.2.1 (Eq.refl _) (Eq.refl _) (by rw [hex41]; omega) (by rw [hex41]; omega) (fun x41 ex41 => ?_)
                      rw [hex41] at ex41
                      refine lv_isub hx hb gX7_solve_11.2.2.1 ?_
                      refine lv_topi (fun x43 ex43 => ?_)
                      have lx43 := ti_lo x43; have ux43 := ti_hi x43
                      refine lv_iload hx hb gX7_solve_11.2.2.2.1 (lv_at hl 0 rfl) ?_
                      refine lv_iload hx hb gX7_solve_11.2.2.2.2.1 (lv_at hl 4 rfl) ?_
                      refine lv_iconst (v := 1) hx hb gX7_solve_11.2.2.2.2.2.1 (by decide) ?_
                      refine tr_iadd hx hb gX7_solve_11.2.2.2.2.2.2.1 (Eq.refl _) tk_1 (by omega) (by omega) (fun x44 ex44 => ?_)
                      have hl9 := s_left hS9 hK9 (c := j75_9.toInt.toNat) (t := x41.toInt) (by omega) ev9 (by rw [ex41, ← hex41, qx40]) (dv_sub_e (Eq.refl (p2.toInt)) (Eq.refl (x41.toInt)) ex43).symm
                      have hk10 : sK gV gf y37.toInt x43.toInt x3.toInt x44.toInt.toNat := by rw [hl9, show x44.toInt.toNat = p4.toInt.toNat + 1 from by omega]; exact hk9.1
                      refine W.count (fun hc1 hc2 => ?_)
                      obtain ⟨d', hd'⟩ : ∃ d', d = d' + 1 := ⟨d - 1, by omega⟩
                      refine th_call (th_runV (As := [.long y37, .int x43, .int x3, .int x44]) (rest := []) hC mf_X7_solve km_X7_100 im_X7_solve se_X7_solve (ihd d' hd' l G Γ H145 hB.1 hR hU a0 h0 y37 x43 x3 (by omega) (by omega) x44 (by omega) (by omega) ⟨_, mm30, hbn7⟩ ⟨_, mm31, hbn8⟩ gV gX gf gs gn gr gq hS9 hX9 hP9 hE9 hW9 hk10 u75 mu36 (by omega)) rfl rfl ⟨by dsimp only; omega, by dsimp only; omega⟩ hB.1 h0 ro_27 rfl rfl hl.1 rfl (Nat.le_of_ble_eq_true rfl) gX7_solve_11.2.2.2.2.2.2.2 ⟨by dsimp only; omega, by dsimp only; omega⟩) hB.2.1 (fun v185 H185 locs hp hz hS => ?_)
                      obtain ⟨x45, rfl, hI1, hf, hR, z185_0, ⟨u185, hu185, ka185, kb185, kc185, kd185⟩⟩ := hp
                      have hB := th_B_c hB hI1 hS hf (by decide)
                      have mm46 := (th_F_o hf h0 ro_27 (j := 7) (by decide) (by decide)).trans mm30
                      have mm47 := (th_F_o hf h0 ro_27 (j := 8) (by decide) (by decide)).trans mm31
                      have mm48 := (th_F_o hf h0 ro_27 (j := 0) (by decide) (by decide)).trans mm32
                      have mm49 := (th_F_o hf h0 ro_27 (j := 12) (by decide) (by decide)).trans mm33
                      have mm50 := (th_F_o hf hbn8 ro_3 (j := 7) (by decide) (by decide)).trans mm34
                      have mm51 := (th_F_o hf h0 ro_27 (j := 4) (by decide) (by decide)).trans mm35
                      have mm52 := (th_F_o hf hbn8 ro_3 (j := 0) (by decide) (by decide)).trans mb38
                      have ku185 : th_pc u185 ≤ th_pc u0 ∧ th_pq u185 ≤ th_pq u0 := by omega
                      refine W.tight (k := th_pc u0 - th_pc u185) (n := th_pq u0 - th_pq u185) (by omega) (by omega) ?_
                      refine W.eq (g2 := F0 m 188 ls [.int x45]) rfl ?_
                      have hr9 : sNd (gV (a0 : Int) 12 0) (gV (a0 : Int) 13 0) (sNx gV gf gs gn gr p1.toInt (8 - p4.toInt.toNat) j75_9.toInt.toNat) (sLx gV gf gs gn gr p1.toInt (8 - p4.toInt.toNat) j75_9.toInt.toNat) x45.toInt := by have h := z185_0.2; unfold sP at h; rw [hk9.2.1, hk9.2.2] at h; exact h
                      refine lv_istore (lv' := [(10, .int x45), (7, .int x3), (0, .ref a0), (1, .long p1), (3, .int p2), (5, .int p4), (8, .int j75_8), (9, .int j75_9)]) hx hb gX7_solve_12.1 hl (by decide) rfl (fun ls hl => ?_)
                      refine lv_aload_n hx hb gX7_solve_12.2.1 rfl (lv_at hl 2 rfl) ?_
                      refine th_getK hC cf_X7 hB.1 h0 ro_27 rfl (j := 12) (by decide) mm49 kf_X7_131 gX7_solve_12.2.2.1 ?_
                      have jn220 : ∀ (H220 : Heap) (u220 : Nat) (locs : List Loc) (ls : Array Slot) (s220_0 : Int32), th_B G Γ Γ [(24, 0), (23, 3), (26, 0), (25, 0), (28, 0), (29, 0), (12, 0), (12, 1), (12, 2), (12, 3), (12, 4), (12, 5), (12, 6), (31, 0), (27, 5)] H0 H220 locs → th_RC G Γ H220 → lv_has ls 11 [(7, .int x3), (0, .ref a0), (1, .long p1), (3, .int p2), (5, .int p4), (9, .int j75_9)] → sLp gV (dv G Γ H220) (a0 : Int) gf gX gs gn gr gq p1.toInt x3.toInt p4.toInt.toNat (j75_9.toInt.toNat + 1) s220_0.toInt → th_bits G Γ H220 u220 → (th_pc u220 ≤ th_pc u0 ∧ th_pq u220 ≤ th_pq u0) → W p l e ({ frames := 5 + d, cells := (th_pc u0), slots := (th_pq u0), locals := 130 + d * 30 } : Room) s m ([.ref a0, .long p1, .int p2, .int p3, .int p4] : List Value).toArray below meth c H220 locs (th_pc u0 - th_pc u220) (th_pq u0 - th_pq u220) (MQ below (th_Q (fun (v : Option Value) (H1 : Heap) => ∃ r : Int32, v = some (.int r) ∧ th_I G Γ H1 ∧ th_F G Γ [(24, 0), (23, 3), (26, 0), (25, 0), (28, 0), (29, 0), (12, 0), (12, 1), (12, 2), (12, 3), (12, 4), (12, 5), (12, 6), (31, 0), (27, 5)] H0 H1 ∧ th_RC G Γ H1 ∧ ((sV (a0 : Int) gX gV (dv G Γ H1) ∧ pC (a0 : Int) gq gV (dv G Γ H1)) ∧ sP gV (a0 : Int) gf gs gn gr p1.toInt r.toInt) ∧ th_bp G Γ H0 H1 u0) G) ([.ref a0, .long p1, .int p2, .int p3, .int p4] : List Value).toArray s (th_pc u0) (th_pq u0) (fun q => G.1.2.2 ≤ q)) (F0 m 220 ls [.int s220_0]) := by
                        intro H220 u220 locs ls s220_0 hB hR hl g220_0 g220_1 g220_2
                        have ls220_0 := ti_lo s220_0; have us220_0 := ti_hi s220_0
                        have mm53 := (th_F_o hB.2.2 h0 ro_27 (j := 7) (by decide) (by decide)).trans mbn7
                        have mm54 := (th_F_o hB.2.2 h0 ro_27 (j := 8) (by decide) (by decide)).trans mbn8
                        have mm55 := (th_F_o hB.2.2 h0 ro_27 (j := 0) (by decide) (by decide)).trans mb1
                        have mm56 := (th_F_o hB.2.2 h0 ro_27 (j := 12) (by decide) (by decide)).trans mx4
                        have mm57 := (th_F_o hB.2.2 hbn8 ro_3 (j := 7) (by decide) (by decide)).trans sx9
                        have mm58 := (th_F_o hB.2.2 h0 ro_27 (j := 4) (by decide) (by decide)).trans sb29
                        have mm59 := (th_F_o hB.2.2 hbn8 ro_3 (j := 0) (by decide) (by decide)).trans sb38
                        refine lv_istore (lv' := [(8, .int s220_0), (7, .int x3), (0, .ref a0), (1, .long p1), (3, .int p2), (5, .int p4), (9, .int j75_9)]) hx hb gX7_solve_13.2.2.2.2.2.2.2 hl (by decide) rfl (fun ls hl => ?_)
                        exact jn222 H220 u220 locs ls s220_0 hB hR (lv_sub hl [1, 2, 3, 4, 5, 6, 0] rfl) g220_0 g220_1 g220_2
                      refine tr_if_eq (tgt := 215) hx hb gX7_solve_12.2.2.2.1 (by decide) (Eq.refl _) (fun c194 => ?_) (fun c194 => ?_)
                      · refine lv_iload hx hb gX7_solve_13.2.2.2.2.1 (lv_at hl 6 rfl) ?_
                        refine lv_iload hx hb gX7_solve_13.2.2.2.2.2.1 (lv_at hl 0 rfl) ?_
                        refine lv_iadd hx hb gX7_solve_13.2.2.2.2.2.2.1 ?_
                        refine lv_topi (fun x60 ex60 => ?_)
                        have lx60 := ti_lo x60; have ux60 := ti_hi x60
                        exact jn220 H185 u185 locs ls x60 hB hR (lv_sub hl [1, 2, 3, 4, 5, 7] rfl) (s_step hS9 g75_2 (by omega) (by omega) ho9.2 z185_0.1.1 z185_0.1.2 hr9 g110_0 (fun _ => (dv_add_e (Eq.refl _) (Eq.refl _) ex60).symm) (fun q => absurd (show gV (a0 : Int) 12 0 = 0 by omega) q)) hu185 ku185
                      · refine lv_iload hx hb gX7_solve_12.2.2.2.2.1 (lv_at hl 6 rfl) ?_
                        refine lv_iload hx hb gX7_solve_12.2.2.2.2.2.1 (lv_at hl 0 rfl) ?_
                        refine lv_aload_n hx hb gX7_solve_12.2.2.2.2.2.2.1 rfl (lv_at hl 2 rfl) ?_
                        refine lv_iload hx hb gX7_solve_12.2.2.2.2.2.2.2 (lv_at hl 7 rfl) ?_
                        refine lv_iload hx hb gX7_solve_13.1 (lv_at hl 1 rfl) ?_
                        refine th_call (th_runV (As := [.int j75_9, .int x3]) (rest := [.int x45, .int j75_8]) hC mf_X7_priceAt km_X7_112 im_X7_priceAt se_X7_priceAt (c_X7_priceAt l G Γ H185 hB.1 hR hU a0 h0 j75_9 (by omega) (by omega) x3 (by omega) (by omega) ⟨_, mm46, hbn7⟩ ⟨_, mm47, hbn8⟩) rfl rfl ⟨by dsimp only; omega, by dsimp only; omega⟩ hB.1 h0 ro_27 rfl rfl hl.1 rfl (Nat.le_of_ble_eq_true rfl) gX7_solve_13.2.1 ⟨by dsimp only; omega, by dsimp only; omega⟩) hB.2.1 (fun v206 H206 locs hp hz hS => ?_)
                        obtain ⟨x61, rfl, hI1, hf, hR, z206_0⟩ := hp
                        have hB := th_B_c hB hI1 hS hf (by decide)
                        have mm62 := (th_F_o hf h0 ro_27 (j := 7) (by decide) (by decide)).trans mm46
                        have mm63 := (th_F_o hf h0 ro_27 (j := 8) (by decide) (by decide)).trans mm47
                        have mm64 := (th_F_o hf h0 ro_27 (j := 0) (by decide) (by decide)).trans mm48
                        have mm65 := (th_F_o hf h0 ro_27 (j := 12) (by decide) (by decide)).trans mm49
                        have mm66 := (th_F_o hf hbn8 ro_3 (j := 7) (by decide) (by decide)).trans mm50
                        have mm67 := (th_F_o hf h0 ro_27 (j := 4) (by decide) (by decide)).trans mm51
                        have mm68 := (th_F_o hf hbn8 ro_3 (j := 0) (by decide) (by decide)).trans mm52
                        have mu69 := th_bits_F hf hu185 (by decide)
                        refine W.eq (g2 := F0 m 209 ls [.int x61, .int x45, .int j75_8]) rfl ?_
                        have hz10 : f_X7_priceAt (dv G Γ H185) (a0 : Int) ((j75_9.toInt.toNat : Nat) : Int) x3.toInt = (dv G Γ H206, x61.toInt) := by rw [ej9]; exact z206_0
                        have hp10 := s_pr hS9 z185_0.1 (by omega) (by omega) (by omega) hz10
                        refine th_call (th_runS (As := [.int j75_8, .int x45, .int x61]) (rest := []) hC mf_X7_cheaper km_X7_156 st_X7_cheaper (c_X7_cheaper l G Γ H206 hB.1 hU j75_8 x45 x61) rfl rfl ⟨by dsimp only; omega, by dsimp only; omega⟩ rfl hl.1 rfl (Nat.le_of_ble_eq_true rfl) gX7_solve_13.2.2.1 ⟨by dsimp only; omega, by dsimp only; omega⟩) hB.2.1 (fun v209 H209 locs hp hz hS => ?_)
                        obtain ⟨x70, rfl, q209_0, rfl⟩ := hp
                        have hB := th_B_s hB hS
                        refine W.eq (g2 := F0 m 212 ls [.int x70]) rfl ?_
                        refine lv_goto (tgt := 220) hx hb gX7_solve_13.2.2.2.1 (by decide) ?_
                        exact jn220 H206 u185 locs ls x70 hB hR (lv_sub hl [1, 2, 3, 4, 5, 7] rfl) (s_step hS9 g75_2 (by omega) (by omega) ho9.2 hp10.1.1 hp10.1.2 hr9 g110_0 (fun q => absurd q (by omega)) (fun q => by rw [← hp10.2.2 q]; exact q209_0)) mu69 ku185
                    · refine lv_goto (tgt := 222) hx hb gX7_solve_8.2.2.1 (by decide) ?_
                      exact jn222 H127 u75 locs ls j75_8 hB hR (lv_sub hl [0, 1, 2, 3, 4, 6, 5] rfl) (s_no2 hS9 g75_2 (by omega) (by omega) hp9.1 (hp9.2.1.mp (by omega))) mu28 g75_4
                refine tr_if_ne (tgt := 110) hx hb gX7_solve_6.2.1 (by decide) (Eq.refl _) (fun c98 => ?_) (fun c98 => ?_)
                · exact jn110 locs ls hB (lv_sub hl [0, 1, 2, 3, 4, 5, 6] rfl) (fun q => by omega)
                · refine lv_iload hx hb gX7_solve_6.2.2.1 (lv_at hl 5 rfl) ?_
                  refine lv_aload_n hx hb gX7_solve_6.2.2.2.1 rfl (lv_at hl 1 rfl) ?_
                  refine th_getI (j := 13) hC cf_X7 hB.1 h0 ro_27 rfl rfl kf_X7_135 gX7_solve_6.2.2.2.2.1 (fun x71 mx71 lx71 ux71 => ?_)
                  have sx71 := (th_F_o hB.2.2 h0 ro_27 (j := 13) (by decide) (by decide)).symm.trans mx71
                  have ee9 : gV (a0 : Int) 13 0 = x71.toInt := (sS_sa hS9 g75_2.1.1 (by decide) 0).symm.trans (dv_getI h0 ro_27 (j := 13) rfl mx71 (by decide))
                  refine tr_icmp_ge (tgt := 228) hx hb gX7_solve_6.2.2.2.2.2.1 (by decide) (Eq.refl _) (Eq.refl _) (fun c107 => ?_) (fun c107 => ?_)
                  · exact jn228 locs ls hB (lv_sub hl [1, 2, 5] rfl) (s_exit hS9 g75_2 hK9 (by first | exact Or.inl (by omega) | exact Or.inr (Or.inl (by omega)) | exact Or.inr (Or.inr ⟨by omega, by omega⟩)))
                  · exact jn110 locs ls hB (lv_sub hl [0, 1, 2, 3, 4, 5, 6] rfl) (fun q => by omega)
        exact lp75 ((2147483648 : Int) - (0)).toNat H0 u0 locs ls s70_0 0 hB hR (lv_sub hl [2, 3, 4, 5, 6, 1, 0] rfl) (by decide) (by decide) (by rw [tk_0]; exact s_begin hb9 hc9 hV9.1 hV9.2 hE9 g70_2) hu0 ku0 (by have w0 := tk_0; omega)
      refine tr_if_eq (tgt := 69) hx hb gX7_solve_4.1 (by decide) (Eq.refl _) (fun c62 => ?_) (fun c62 => ?_)
      · refine lv_iconst (v := 0) hx hb gX7_solve_4.2.2.2.1 (by decide) ?_
        exact jn70 locs ls 0 hB (lv_sub hl [0, 2, 3, 4, 6] rfl) (by decide) (by decide) ⟨fun q => by have w0 := tk_0; have w1 := tk_1; have w2 := tk_m1; omega, fun q => by have w0 := tk_0; have w1 := tk_1; have w2 := tk_m1; omega⟩
      · refine lv_iconst (v := (-1)) hx hb gX7_solve_4.2.1 (by decide) ?_
        refine lv_goto (tgt := 70) hx hb gX7_solve_4.2.2.1 (by decide) ?_
        exact jn70 locs ls (-1) hB (lv_sub hl [0, 2, 3, 4, 6] rfl) (by decide) (by decide) ⟨fun q => by have w0 := tk_0; have w1 := tk_1; have w2 := tk_m1; omega, fun q => by have w0 := tk_0; have w1 := tk_1; have w2 := tk_m1; omega⟩
    · refine lv_aload_n hx hb gX7_solve_2.2.2.2.2.1 rfl (lv_at hl 1 rfl) ?_
      refine th_getK hC cf_X7 hB.1 h0 ro_27 rfl (j := 0) (by decide) mb1 kf_X7_12 gX7_solve_2.2.2.2.2.2.1 ?_
      refine lv_iload hx hb gX7_solve_2.2.2.2.2.2.2.1 (lv_at hl 0 rfl) ?_
      refine th_call (th_runV (As := [.int x2]) (rest := []) hC mf_X3_valueIn km_X7_149 im_X3_valueIn se_X3_valueIn (c_X3_valueIn l G Γ H0 hB.1 hR b1 hb1 x2) rfl rfl ⟨by dsimp only; omega, by dsimp only; omega⟩ hB.1 hb1 ro_12 rfl rfl hl.1 rfl (Nat.le_of_ble_eq_true rfl) gX7_solve_2.2.2.2.2.2.2.2 ⟨by dsimp only; omega, by dsimp only; omega⟩) hB.2.1 (fun v45 H45 locs hp hz hS => ?_)
      obtain ⟨x72, rfl, q45_0, rfl⟩ := hp
      have hB := th_B_s hB hS
      refine W.eq (g2 := F0 m 48 ls [.int x72]) rfl ?_
      refine W.count (fun hc1 hc2 => ?_)
      rw [hH] at hc1 hc2
      refine W.widen (k := th_pc u0) (n := th_pq u0) (Nat.sub_le _ _) (Nat.sub_le _ _) ?_
      exact th_iret hC hH hr hlocks rfl hB.2.1 ⟨_, rfl, hB.1, hB.2.2, hR, ⟨hV9, by obtain ⟨v9, v1, v2⟩ := q28_0 (by omega) (lbk_ne hK9.1); rw [q45_0 v9 v1]; exact (hP9 _ _).mp v2⟩, ⟨u0, hu0, ku0.1, ku0.2, by omega, by omega⟩⟩ gX7_solve_3.1
  · refine lv_aload_n hx hb gX7_solve_0.2.2.1 rfl (lv_at hl 0 rfl) ?_
    refine lv_iload hx hb gX7_solve_0.2.2.2.1 (lv_at hl 4 rfl) ?_
    refine th_put hC cf_X7 hB h0 (Or.inl h0) ro_27 rfl (j := 5) rfl th_sIa (by decide) rfl rfl rfl kf_X7_31 gX7_solve_0.2.2.2.2.1 (fun H7 locs hB hf hst7 => ?_)
    have mm73 := (th_F_o hf h0 ro_27 (j := 7) (by decide) (by decide)).trans mbn7
    have mm74 := (th_F_o hf h0 ro_27 (j := 8) (by decide) (by decide)).trans mbn8
    have mu75 := th_bits_F hf hu0 (by decide)
    have hR := th_RC_F hB.1 hR hf (th_T_s h0 ro_27 hst7) (by decide)
    have hW7 := s_V5 hV9 (dv_putI hB.1 h0 ro_27 (j := 5) rfl (th_apart hC cf_X7) hst7 (Eq.refl (p4.toInt)) (by decide))
    refine lv_aload_n hx hb gX7_solve_0.2.2.2.2.2.1 rfl (lv_at hl 0 rfl) ?_
    refine th_getI (j := 12) hC cf_X7 hB.1 h0 ro_27 rfl rfl kf_X7_131 gX7_solve_0.2.2.2.2.2.2.1 (fun x76 mx76 lx76 ux76 => ?_)
    have ec9 : gV (a0 : Int) 12 0 = x76.toInt := (sS_sa hS9 hW7.1 (by decide) 0).symm.trans (dv_getI h0 ro_27 (j := 12) rfl mx76 (by decide))
    refine tr_if_eq (tgt := 21) hx hb gX7_solve_0.2.2.2.2.2.2.2 (by decide) (Eq.refl _) (fun c14 => ?_) (fun c14 => ?_)
    · refine lv_iconst (v := 1) hx hb gX7_solve_1.2.2.1 (by decide) ?_
      refine W.count (fun hc1 hc2 => ?_)
      rw [hH] at hc1 hc2
      refine W.widen (k := th_pc u0) (n := th_pq u0) (Nat.sub_le _ _) (Nat.sub_le _ _) ?_
      exact th_iret hC hH hr hlocks rfl hB.2.1 ⟨_, rfl, hB.1, hB.2.2, hR, ⟨hW7, s_leaf hS9 hK9 (by omega) (fun q => by have w0 := tk_0; have w1 := tk_1; have w2 := tk_m1; omega) (fun q => by have w0 := tk_0; have w1 := tk_1; have w2 := tk_m1; omega)⟩, ⟨u0, mu75, ku0.1, ku0.2, by omega, by omega⟩⟩ gX7_solve_1.2.2.2.1
    · refine lv_iconst (v := 0) hx hb gX7_solve_1.1 (by decide) ?_
      refine lv_goto (tgt := 22) hx hb gX7_solve_1.2.1 (by decide) ?_
      refine W.count (fun hc1 hc2 => ?_)
      rw [hH] at hc1 hc2
      refine W.widen (k := th_pc u0) (n := th_pq u0) (Nat.sub_le _ _) (Nat.sub_le _ _) ?_
      exact th_iret hC hH hr hlocks rfl hB.2.1 ⟨_, rfl, hB.1, hB.2.2, hR, ⟨hW7, s_leaf hS9 hK9 (by omega) (fun q => by have w0 := tk_0; have w1 := tk_1; have w2 := tk_m1; omega) (fun q => by have w0 := tk_0; have w1 := tk_1; have w2 := tk_m1; omega)⟩, ⟨u0, mu75, ku0.1, ku0.2, by omega, by omega⟩⟩ gX7_solve_1.2.2.2.1
theorem c_X7_solve_S_d (d : Nat) : s_X7_solve_S d := by
  induction d with
  | zero => exact c_X7_solve_S_s 0 (fun d' h => absurd h (by omega))
  | succ d ih => exact c_X7_solve_S_s (d + 1) (fun d' h => by cases h; exact ih)
theorem c_X7_solve_S (l : Launch) (G : th_G) (Γ : th_Ga) (H0 : Heap) (hI : th_I G Γ H0) (hR : th_RC G Γ H0) (hU : dv_U Γ) (a0 : Nat) (h0 : Γ a0 = (27, 0)) (p1 : Int64) (p2 : Int32) (p3 : Int32) (f3 : 0 ≤ p3.toInt) (g3 : p3.toInt ≤ 144) (p4 : Int32) (f4 : 0 ≤ p4.toInt) (g4 : p4.toInt ≤ 9) (nn7 : ∃ b : Nat, th_sl H0 a0 (G.1.1.2 7 7) = .ref b ∧ Γ b = (11, 0)) (nn8 : ∃ b : Nat, th_sl H0 a0 (G.1.1.2 7 8) = .ref b ∧ Γ b = (3, 0)) (gV : dV) (gX : Int → Nat → Int → Prop) (gf gs : Int) (gn : Nat) (gr gq : Nat → Int → Int) (hS9 : sS gV (a0 : Int) gf gX gs gn gr gq) (hX9 : ∀ a o : Nat, Γ a = (12, o) → ∀ m z, gX (a : Int) m z) (hP9 : ∀ x y : Int, th_pm G x y ↔ sP gV (a0 : Int) gf gs gn gr x y) (hE9 : 1 ≤ gV (a0 : Int) 13 0) (hV9 : sV (a0 : Int) gX gV (dv G Γ H0) ∧ pC (a0 : Int) gq gV (dv G Γ H0)) (hK9 : sK gV gf p1.toInt p2.toInt p3.toInt p4.toInt.toNat) (u0 : Nat) (hu0 : th_bits G Γ H0 u0) : Met l yX7_solve (.code yX7_solve cX7_solve 11 (some FieldType.int) :: th_tb) ({ frames := 14, cells := (th_pc u0), slots := (th_pq u0), locals := 400 } : Room) (th_P [.ref a0, .long p1, .int p2, .int p3, .int p4] G H0) (th_Q (fun (v : Option Value) (H1 : Heap) => ∃ r : Int32, v = some (.int r) ∧ th_I G Γ H1 ∧ th_F G Γ [(24, 0), (23, 3), (26, 0), (25, 0), (28, 0), (29, 0), (12, 0), (12, 1), (12, 2), (12, 3), (12, 4), (12, 5), (12, 6), (31, 0), (27, 5)] H0 H1 ∧ th_RC G Γ H1 ∧ ((sV (a0 : Int) gX gV (dv G Γ H1) ∧ pC (a0 : Int) gq gV (dv G Γ H1)) ∧ sP gV (a0 : Int) gf gs gn gr p1.toInt r.toInt) ∧ th_bp G Γ H0 H1 u0) G) (th_pc u0) (th_pq u0) (fun q => G.1.2.2 ≤ q) := c_X7_solve_S_d 9 l G Γ H0 hI hR hU a0 h0 p1 p2 p3 f3 g3 p4 f4 g4 nn7 nn8 gV gX gf gs gn gr gq hS9 hX9 hP9 hE9 hV9 hK9 u0 hu0 (by omega)
