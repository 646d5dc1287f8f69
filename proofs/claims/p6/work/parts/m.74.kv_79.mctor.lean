section
section TKV
variable {G : th_G} {Γ : th_Ga} {H H0 H1 : Heap} {L : List (Nat × Nat)} {sh : Int}
/-- the cells of all floors but one; their bits are left out -/
def kv (G : th_G) (Γ : th_Ga) (H : Heap) (sh : Int) : dV := fun b j z => if b ≠ sh ∧ (Γ b.toNat).1 = 3 ∧ j ≠ 6 then dv G Γ H b j z else 0
theorem kv_c (h : bo_fr sh (dv G Γ H) (dv G Γ H1)) : kv G Γ H1 sh = kv G Γ H sh := dv_ext fun b j z => by
  unfold kv
  by_cases e : b ≠ sh ∧ (Γ b.toNat).1 = 3 ∧ j ≠ 6
  · rw [if_pos e, if_pos e]; exact h b j z e.1
  · rw [if_neg e, if_neg e]
/-- a floor's fields: which rows it owns -/
theorem kv_q {j : Nat} (h : j < 11) (h6 : j ≠ 6) : ∃ q : th_sp, th_f3[j]? = some q ∧ (q.1 = 4 → 4 ≤ q.2.1.toNat ∧ q.2.1.toNat < 10) := by
  match j, h, h6 with
  | 0, _, _ => exact ⟨_, rfl, by decide⟩
  | 1, _, _ => exact ⟨_, rfl, by decide⟩
  | 2, _, _ => exact ⟨_, rfl, by decide⟩
  | 3, _, _ => exact ⟨_, rfl, by decide⟩
  | 4, _, _ => exact ⟨_, rfl, by decide⟩
  | 5, _, _ => exact ⟨_, rfl, by decide⟩
  | 6, _, w => exact absurd rfl w
  | 7, _, _ => exact ⟨_, rfl, by decide⟩
  | 8, _, _ => exact ⟨_, rfl, by decide⟩
  | 9, _, _ => exact ⟨_, rfl, by decide⟩
  | 10, _, _ => exact ⟨_, rfl, by decide⟩
  | n + 11, w, _ => exact absurd w (by omega)
/-- nothing of a floor is in L -/
def kv_L (L : List (Nat × Nat)) : Bool := (List.range 11).all (fun j => j == 6 || !th_in L 3 j) && (List.range 10).all (fun r => r < 4 || !th_in L r 0)
theorem kv_F (hI : th_I G Γ H) (hI1 : th_I G Γ H1) (hF : th_F G Γ L H H1) (hL : kv_L L = true) : kv G Γ H1 sh = kv G Γ H sh := dv_ext fun b j z => by
  unfold kv
  by_cases e : b ≠ sh ∧ (Γ b.toNat).1 = 3 ∧ j ≠ 6
  case neg => rw [if_neg e, if_neg e]
  rw [if_pos e, if_pos e]
  obtain ⟨-, e3, e6⟩ := e
  obtain ⟨h1, h2⟩ := Bool.and_eq_true_iff.mp hL
  have L1 : ∀ j, j < 11 → j ≠ 6 → th_in L 3 j = false := fun j hj h6 => by
    have h := List.all_eq_true.mp h1 j (List.mem_range.mpr hj)
    cases hh : th_in L 3 j with
    | false => rfl
    | true => simp [hh, h6] at h
  have L2 : ∀ r, 4 ≤ r → r < 10 → th_in L r 0 = false := fun r r4 r10 => by
    have h := List.all_eq_true.mp h2 r (List.mem_range.mpr r10)
    cases hh : th_in L r 0 with
    | false => rfl
    | true =>
      have n4 : ¬ r < 4 := by omega
      simp [hh, n4] at h
  by_cases b0 : b < 0
  · unfold dv
    rw [if_pos (Or.inl b0), if_pos (Or.inl b0)]
  · have hb : b = ((b.toNat : Nat) : Int) := by omega
    obtain ⟨o, hg⟩ : ∃ o, Γ b.toNat = (3, o) := ⟨(Γ b.toNat).2, by rw [← e3]⟩
    by_cases j11 : j < 11
    · obtain ⟨q, hq, hr⟩ := kv_q j11 e6
      exact dv_F hI hI1 hF hb hg ro_3 hq (L1 j j11 e6) (fun q4 => L2 _ (hr q4).1 (hr q4).2)
    · have hno : ¬ ∃ r o k fs q, Γ b.toNat = (r, o) ∧ th_ro r = some (.inl (k, fs)) ∧ fs[j]? = some q := by
        rintro ⟨r, o1, k, fs, q, w1, w2, w3⟩
        rw [hg] at w1
        cases w1
        cases ro_3.symm.trans w2
        have w4 := (List.getElem?_eq_some_iff.mp w3).1
        have w5 : th_f3.length = 11 := rfl
        omega
      rw [dv_no (Or.inr hno), dv_no (Or.inr hno)]
end TKV
end
section
set_option maxHeartbeats 4000000 in
set_option maxRecDepth 100000 in
theorem c_X11_halls_k (l : Launch) (G : th_G) (Γ : th_Ga) (H0 : Heap) (hI : th_I G Γ H0) (hR : th_RC G Γ H0) (hU : dv_U Γ) (a0 : Nat) (h0 : Γ a0 = (42, 0)) (p1 : Int32) (sh : Nat) (hsh : Γ sh = (3, 0)) (msh : th_sl H0 a0 (G.1.2 11 4) = .ref sh) (u0 : Nat) (hu0 : th_bits G Γ H0 u0) : Met l yX11_halls (.code yX11_halls cX11_halls 6 (some FieldType.int) :: th_tb) ({ frames := 16, cells := (th_pc u0), slots := (th_pq u0), locals := 451 } : Room) (th_P [.ref a0, .int p1] G H0) (th_Q (fun (v : Option Value) (H1 : Heap) => ∃ r : Int32, v = some (.int r) ∧ th_I G Γ H1 ∧ th_F G Γ [(24, 0), (23, 3), (26, 0), (25, 0), (28, 0), (29, 0), (12, 0), (12, 1), (12, 2), (12, 3), (12, 4), (12, 5), (12, 6), (31, 0), (27, 5), (27, 6), (27, 7), (27, 8), (27, 9), (27, 10), (27, 11), (27, 12), (27, 13), (10, 0), (4, 0), (5, 0), (6, 0), (9, 0), (3, 7), (3, 8), (3, 9), (3, 10), (7, 0), (8, 0)] H0 H1 ∧ th_RC G Γ H1 ∧ (kv G Γ H1 (sh : Int) = kv G Γ H0 (sh : Int)) ∧ th_bp G Γ H0 H1 u0) G) (th_pc u0) (th_pq u0) (fun q => G.2.2 ≤ q) := by
  refine th_met RX11 (by decide) rfl (Nat.le_of_ble_eq_true rfl) ?_
  intro p e s m below meth c hC hH hr hlocks hnm ls hl
  have hx := hC.1
  have hb := hC.2.1
  have hB : th_B G Γ Γ [(24, 0), (23, 3), (26, 0), (25, 0), (28, 0), (29, 0), (12, 0), (12, 1), (12, 2), (12, 3), (12, 4), (12, 5), (12, 6), (31, 0), (27, 5), (27, 6), (27, 7), (27, 8), (27, 9), (27, 10), (27, 11), (27, 12), (27, 13), (10, 0), (4, 0), (5, 0), (6, 0), (9, 0), (3, 7), (3, 8), (3, 9), (3, 10), (7, 0), (8, 0)] H0 H0 [] := ⟨hI, va_S.rf, th_F_rf⟩
  have hl : lv_has ls 6 [(0, .ref a0), (1, .int p1)] := hl
  have lp1 := ti_lo p1; have up1 := ti_hi p1
  have ku0 : th_pc u0 ≤ th_pc u0 ∧ th_pq u0 ≤ th_pq u0 := ⟨Nat.le_refl _, Nat.le_refl _⟩
  refine W.widen (k := th_pc u0 - th_pc u0) (n := th_pq u0 - th_pq u0) (Nat.zero_le _) (Nat.zero_le _) ?_
  refine lv_iload_n hx hb dX11_halls_0 rfl (lv_at hl 1 rfl) ?_
  refine lv_iconst (v := (-1)) hx hb dX11_halls_1 (by decide) ?_
  refine tr_icmp_ge (tgt := 7) hx hb dX11_halls_2 (by decide) (Eq.refl _) tk_m1 (fun c2 => ?_) (fun c2 => ?_)
  · refine lv_aload_n hx hb dX11_halls_7 rfl (lv_at hl 0 rfl) ?_
    refine th_getR (j := 0) (r2 := 32) hC cf_X11 hB.1 h0 ro_42 rfl rfl kf_X11_12 dX11_halls_8 (fun b1 mb1 hb1 => ?_)
    refine th_getR (j := 0) (r2 := 3) hC cf_X8 hB.1 hb1 ro_32 rfl rfl kf_X11_107 dX11_halls_11 (fun b2 mb2 hb2 => ?_)
    have hIo := hB.1
    refine th_call (th_runV (As := []) (rest := []) hC mf_X1_areaWithoutRags km_X11_272 im_X1_areaWithoutRags se_X1_areaWithoutRags (c_X1_areaWithoutRags l G Γ H0 hB.1 hU b2 hb2) rfl rfl ⟨Nat.le_of_ble_eq_true rfl, Nat.le_of_ble_eq_true rfl⟩ hB.1 hb2 ro_3 rfl rfl hl.1 rfl (Nat.le_of_ble_eq_true rfl) dX11_halls_14 ⟨by dsimp only; omega, by dsimp only; omega⟩) hB.2.1 (fun v14 H14 locs hp hz hS => ?_)
    obtain ⟨x3, rfl, q14_0, rfl⟩ := hp
    have hB := th_B_s hB hS
    refine W.eq (g2 := F0 m 17 ls [.int x3]) rfl ?_
    refine lv_istore_n (lv' := [(2, .int x3), (0, .ref a0), (1, .int p1)]) hx hb dX11_halls_17 rfl hl (by decide) rfl (fun ls hl => ?_)
    refine lv_iconst (v := 0) hx hb dX11_halls_18 (by decide) ?_
    refine lv_istore_n (lv' := [(3, .int 0), (2, .int x3), (0, .ref a0), (1, .int p1)]) hx hb dX11_halls_19 rfl hl (by decide) rfl (fun ls hl => ?_)
    refine lv_iconst (v := 1) hx hb dX11_halls_20 (by decide) ?_
    refine lv_istore (lv' := [(4, .int 1), (3, .int 0), (2, .int x3), (0, .ref a0), (1, .int p1)]) hx hb dX11_halls_21 hl (by decide) rfl (fun ls hl => ?_)
    have lp23 : ∀ (n23 : Nat) (H23 : Heap) (u23 : Nat) (locs : List Loc) (ls : Array Slot) (j23_3 : Int32) (j23_4 : Int32), th_B G Γ Γ [(24, 0), (23, 3), (26, 0), (25, 0), (28, 0), (29, 0), (12, 0), (12, 1), (12, 2), (12, 3), (12, 4), (12, 5), (12, 6), (31, 0), (27, 5), (27, 6), (27, 7), (27, 8), (27, 9), (27, 10), (27, 11), (27, 12), (27, 13), (10, 0), (4, 0), (5, 0), (6, 0), (9, 0), (3, 7), (3, 8), (3, 9), (3, 10), (7, 0), (8, 0)] H0 H23 locs → th_RC G Γ H23 → lv_has ls 6 [(2, .int x3), (0, .ref a0), (1, .int p1), (3, .int j23_3), (4, .int j23_4)] → 1 ≤ j23_4.toInt → j23_4.toInt ≤ 15 → kv G Γ H23 (sh : Int) = kv G Γ H0 (sh : Int) → th_bits G Γ H23 u23 → (th_pc u23 ≤ th_pc u0 ∧ th_pq u23 ≤ th_pq u0) → (2147483648 : Int) - j23_4.toInt ≤ (n23 : Int) → W p l e ({ frames := 16, cells := (th_pc u0), slots := (th_pq u0), locals := 451 } : Room) s m ([.ref a0, .int p1] : List Value).toArray below meth c H23 locs (th_pc u0 - th_pc u23) (th_pq u0 - th_pq u23) (MQ below (th_Q (fun (v : Option Value) (H1 : Heap) => ∃ r : Int32, v = some (.int r) ∧ th_I G Γ H1 ∧ th_F G Γ [(24, 0), (23, 3), (26, 0), (25, 0), (28, 0), (29, 0), (12, 0), (12, 1), (12, 2), (12, 3), (12, 4), (12, 5), (12, 6), (31, 0), (27, 5), (27, 6), (27, 7), (27, 8), (27, 9), (27, 10), (27, 11), (27, 12), (27, 13), (10, 0), (4, 0), (5, 0), (6, 0), (9, 0), (3, 7), (3, 8), (3, 9), (3, 10), (7, 0), (8, 0)] H0 H1 ∧ th_RC G Γ H1 ∧ (kv G Γ H1 (sh : Int) = kv G Γ H0 (sh : Int)) ∧ th_bp G Γ H0 H1 u0) G) ([.ref a0, .int p1] : List Value).toArray s (th_pc u0) (th_pq u0) (fun q => G.2.2 ≤ q)) (F0 m 23 ls []) := by
      intro n23
      induction n23 with
      | zero => intro H23 u23 locs ls j23_3 j23_4 hB hR hl g23_0 g23_1 g23_2 g23_3 g23_4 hm23; exact absurd hm23 (by have := ti_hi j23_4; omega)
      | succ n23 ih23 =>
        intro H23 u23 locs ls j23_3 j23_4 hB hR hl g23_0 g23_1 g23_2 g23_3 g23_4 hm23
        have lj23_3 := ti_lo j23_3; have uj23_3 := ti_hi j23_3
        have lj23_4 := ti_lo j23_4; have uj23_4 := ti_hi j23_4
        have mm4 := (th_F_o hB.2.2 h0 ro_42 (j := 4) (by decide) (by decide)).trans msh
        have mm5 := (th_F_o hB.2.2 h0 ro_42 (j := 0) (by decide) (by decide)).trans mb1
        have mm6 := (th_F_o hB.2.2 hb1 ro_32 (j := 0) (by decide) (by decide)).trans mb2
        have hm23 : (2147483648 : Int) - j23_4.toInt ≤ (n23 : Int) + 1 := by omega
        refine lv_iload hx hb dX11_halls_23 (lv_at hl 4 rfl) ?_
        refine lv_bipush (v := 12) hx hb dX11_halls_25 (by decide) ?_
        have jn143 : ∀ (locs : List Loc) (ls : Array Slot) , th_B G Γ Γ [(24, 0), (23, 3), (26, 0), (25, 0), (28, 0), (29, 0), (12, 0), (12, 1), (12, 2), (12, 3), (12, 4), (12, 5), (12, 6), (31, 0), (27, 5), (27, 6), (27, 7), (27, 8), (27, 9), (27, 10), (27, 11), (27, 12), (27, 13), (10, 0), (4, 0), (5, 0), (6, 0), (9, 0), (3, 7), (3, 8), (3, 9), (3, 10), (7, 0), (8, 0)] H0 H23 locs → lv_has ls 6 [(1, .int p1), (3, .int j23_3)] → W p l e ({ frames := 16, cells := (th_pc u0), slots := (th_pq u0), locals := 451 } : Room) s m ([.ref a0, .int p1] : List Value).toArray below meth c H23 locs (th_pc u0 - th_pc u23) (th_pq u0 - th_pq u23) (MQ below (th_Q (fun (v : Option Value) (H1 : Heap) => ∃ r : Int32, v = some (.int r) ∧ th_I G Γ H1 ∧ th_F G Γ [(24, 0), (23, 3), (26, 0), (25, 0), (28, 0), (29, 0), (12, 0), (12, 1), (12, 2), (12, 3), (12, 4), (12, 5), (12, 6), (31, 0), (27, 5), (27, 6), (27, 7), (27, 8), (27, 9), (27, 10), (27, 11), (27, 12), (27, 13), (10, 0), (4, 0), (5, 0), (6, 0), (9, 0), (3, 7), (3, 8), (3, 9), (3, 10), (7, 0), (8, 0)] H0 H1 ∧ th_RC G Γ H1 ∧ (kv G Γ H1 (sh : Int) = kv G Γ H0 (sh : Int)) ∧ th_bp G Γ H0 H1 u0) G) ([.ref a0, .int p1] : List Value).toArray s (th_pc u0) (th_pq u0) (fun q => G.2.2 ≤ q)) (F0 m 143 ls []) := by
          intro locs ls hB hl
          refine lv_iload_n hx hb dX11_halls_143 rfl (lv_at hl 0 rfl) ?_
          refine lv_iconst (v := (-1)) hx hb dX11_halls_144 (by decide) ?_
          refine tr_icmp_ne (tgt := 152) hx hb dX11_halls_145 (by decide) (Eq.refl _) tk_m1 (fun c145 => ?_) (fun c145 => ?_)
          · refine lv_iconst (v := (-1)) hx hb dX11_halls_152 (by decide) ?_
            refine W.count (fun hc1 hc2 => ?_)
            rw [hH] at hc1 hc2
            refine W.widen (k := th_pc u0) (n := th_pq u0) (Nat.sub_le _ _) (Nat.sub_le _ _) ?_
            exact th_iret hC hH hr hlocks rfl hB.2.1 ⟨_, rfl, hB.1, hB.2.2, hR, g23_2, ⟨u23, g23_3, g23_4.1, g23_4.2, by omega, by omega⟩⟩ dX11_halls_153
          · refine lv_iload_n hx hb dX11_halls_148 rfl (lv_at hl 1 rfl) ?_
            refine lv_goto (tgt := 153) hx hb dX11_halls_149 (by decide) ?_
            refine W.count (fun hc1 hc2 => ?_)
            rw [hH] at hc1 hc2
            refine W.widen (k := th_pc u0) (n := th_pq u0) (Nat.sub_le _ _) (Nat.sub_le _ _) ?_
            exact th_iret hC hH hr hlocks rfl hB.2.1 ⟨_, rfl, hB.1, hB.2.2, hR, g23_2, ⟨u23, g23_3, g23_4.1, g23_4.2, by omega, by omega⟩⟩ dX11_halls_153
        refine tr_icmp_gt (tgt := 143) hx hb dX11_halls_27 (by decide) (Eq.refl _) tk_12 (fun c27 => ?_) (fun c27 => ?_)
        · exact jn143 locs ls hB (lv_sub hl [2, 3] rfl)
        · refine lv_iload_n hx hb dX11_halls_30 rfl (lv_at hl 0 rfl) ?_
          refine tr_if_le (tgt := 143) hx hb dX11_halls_31 (by decide) (Eq.refl _) (fun c31 => ?_) (fun c31 => ?_)
          · exact jn143 locs ls hB (lv_sub hl [2, 3] rfl)
          · refine lv_iload_n hx hb dX11_halls_34 rfl (lv_at hl 0 rfl) ?_
            refine lv_iload hx hb dX11_halls_35 (lv_at hl 4 rfl) ?_
            refine tr_idiv hx hb dX11_halls_37 (Eq.refl _) (Eq.refl _) (by omega) (by omega) (fun x7 ex7 => ?_)
            have fx7 := ti_divb (a := x3.toInt) (b := j23_4.toInt) (by omega) (by omega)
            rw [← ex7] at fx7
            refine lv_istore (lv' := [(5, .int x7), (2, .int x3), (0, .ref a0), (1, .int p1), (3, .int j23_3), (4, .int j23_4)]) hx hb dX11_halls_38 hl (by decide) rfl (fun ls hl => ?_)
            refine lv_iload hx hb dX11_halls_40 (lv_at hl 0 rfl) ?_
            refine lv_bipush (v := 12) hx hb dX11_halls_42 (by decide) ?_
            have jn137 : ∀ (H137 : Heap) (u137 : Nat) (locs : List Loc) (ls : Array Slot) (j137_3 : Int32), th_B G Γ Γ [(24, 0), (23, 3), (26, 0), (25, 0), (28, 0), (29, 0), (12, 0), (12, 1), (12, 2), (12, 3), (12, 4), (12, 5), (12, 6), (31, 0), (27, 5), (27, 6), (27, 7), (27, 8), (27, 9), (27, 10), (27, 11), (27, 12), (27, 13), (10, 0), (4, 0), (5, 0), (6, 0), (9, 0), (3, 7), (3, 8), (3, 9), (3, 10), (7, 0), (8, 0)] H0 H137 locs → th_RC G Γ H137 → lv_has ls 6 [(2, .int x3), (0, .ref a0), (1, .int p1), (4, .int j23_4), (3, .int j137_3)] → kv G Γ H137 (sh : Int) = kv G Γ H0 (sh : Int) → th_bits G Γ H137 u137 → (th_pc u137 ≤ th_pc u0 ∧ th_pq u137 ≤ th_pq u0) → W p l e ({ frames := 16, cells := (th_pc u0), slots := (th_pq u0), locals := 451 } : Room) s m ([.ref a0, .int p1] : List Value).toArray below meth c H137 locs (th_pc u0 - th_pc u137) (th_pq u0 - th_pq u137) (MQ below (th_Q (fun (v : Option Value) (H1 : Heap) => ∃ r : Int32, v = some (.int r) ∧ th_I G Γ H1 ∧ th_F G Γ [(24, 0), (23, 3), (26, 0), (25, 0), (28, 0), (29, 0), (12, 0), (12, 1), (12, 2), (12, 3), (12, 4), (12, 5), (12, 6), (31, 0), (27, 5), (27, 6), (27, 7), (27, 8), (27, 9), (27, 10), (27, 11), (27, 12), (27, 13), (10, 0), (4, 0), (5, 0), (6, 0), (9, 0), (3, 7), (3, 8), (3, 9), (3, 10), (7, 0), (8, 0)] H0 H1 ∧ th_RC G Γ H1 ∧ (kv G Γ H1 (sh : Int) = kv G Γ H0 (sh : Int)) ∧ th_bp G Γ H0 H1 u0) G) ([.ref a0, .int p1] : List Value).toArray s (th_pc u0) (th_pq u0) (fun q => G.2.2 ≤ q)) (F0 m 137 ls []) := by
              intro H137 u137 locs ls j137_3 hB hR hl g137_0 g137_1 g137_2
              have lj137_3 := ti_lo j137_3; have uj137_3 := ti_hi j137_3
              have mm8 := (th_F_o hB.2.2 h0 ro_42 (j := 4) (by decide) (by decide)).trans msh
              have mm9 := (th_F_o hB.2.2 h0 ro_42 (j := 0) (by decide) (by decide)).trans mb1
              have mm10 := (th_F_o hB.2.2 hb1 ro_32 (j := 0) (by decide) (by decide)).trans mb2
              refine tr_iinc (fun x11 => [(4, .int x11), (2, .int x3), (0, .ref a0), (1, .int p1), (3, .int j137_3)]) hx hb dX11_halls_137 hl (k := 3) rfl (Eq.refl _) tk_1 (by omega) (by omega) (by decide) (fun _ => rfl) (fun x11 ls ex11 hl => ?_)
              refine lv_goto (tgt := 23) hx hb dX11_halls_140 (by decide) ?_
              exact ih23 H137 u137 locs ls j137_3 x11 hB hR (lv_sub hl [1, 2, 3, 4, 0] rfl) (by omega) (by omega) g137_0 g137_1 g137_2 (by omega)
            refine tr_icmp_gt (tgt := 137) hx hb dX11_halls_44 (by decide) (Eq.refl _) tk_12 (fun c44 => ?_) (fun c44 => ?_)
            · exact jn137 H23 u23 locs ls j23_3 hB hR (lv_sub hl [1, 2, 3, 5, 4] rfl) g23_2 g23_3 g23_4
            · refine lv_iload hx hb dX11_halls_47 (lv_at hl 0 rfl) ?_
              refine lv_iload hx hb dX11_halls_49 (lv_at hl 5 rfl) ?_
              have q13 := ti_mulr (a := x7.toInt) (b := j23_4.toInt) (A := 12) (B := 12) (by omega) (by omega) (by omega) (by omega)
              generalize hex12 : x7.toInt * j23_4.toInt = wx12 at q13
              refine tr_imul hx hb dX11_halls_51 (Eq.refl _) (Eq.refl _) (by rw [hex12]; omega) (by rw [hex12]; omega) (fun x12 ex12 => ?_)
              rw [hex12] at ex12
              refine lv_iload_n hx hb dX11_halls_52 rfl (lv_at hl 1 rfl) ?_
              refine tr_icmp_eq (tgt := 59) hx hb dX11_halls_53 (by decide) (Eq.refl _) (Eq.refl _) (fun c53 => ?_) (fun c53 => ?_)
              · refine lv_aload_n hx hb dX11_halls_59 rfl (lv_at hl 2 rfl) ?_
                have f59 : 1 ≤ x7.toInt := by
                  rcases Int.lt_or_le 0 x7.toInt with h9 | h9
                  · omega
                  · have h8 : x7.toInt = 0 := by omega
                    rw [h8, Int.zero_mul] at hex12
                    omega
                refine th_getK hC cf_X11 hB.1 h0 ro_42 rfl (j := 4) (by decide) mm4 kf_X11_31 dX11_halls_60 ?_
                refine lv_aload_n hx hb dX11_halls_63 rfl (lv_at hl 2 rfl) ?_
                refine th_getK hC cf_X11 hB.1 h0 ro_42 rfl (j := 0) (by decide) mm5 kf_X11_12 dX11_halls_64 ?_
                refine th_getK hC cf_X8 hB.1 hb1 ro_32 rfl (j := 0) (by decide) mm6 kf_X11_107 dX11_halls_67 ?_
                have hIo := hB.1
                refine th_call (th_runV (As := [.ref b2]) (rest := []) hC mf_X1_copyFrom km_X11_275 im_X1_copyFrom se_X1_copyFrom (c_X1_copyFrom l G Γ H23 hB.1 hR hU sh hsh b2 hb2) rfl rfl ⟨Nat.le_of_ble_eq_true rfl, Nat.le_of_ble_eq_true rfl⟩ hB.1 hsh ro_3 rfl rfl hl.1 rfl (Nat.le_of_ble_eq_true rfl) dX11_halls_70 ⟨by dsimp only; omega, by dsimp only; omega⟩) hB.2.1 (fun v70 H70 locs hp hz hS => ?_)
                obtain ⟨rfl, hI1, hf, hR, z70_0⟩ := hp
                have hB := th_B_c hB hI1 hS hf (by decide)
                have mm14 := (th_F_o hf h0 ro_42 (j := 4) (by decide) (by decide)).trans mm4
                have mm15 := (th_F_o hf h0 ro_42 (j := 0) (by decide) (by decide)).trans mm5
                have mm16 := (th_F_o hf hb1 ro_32 (j := 0) (by decide) (by decide)).trans mm6
                have mu17 := th_bits_F hf g23_3 (by decide)
                have tv_w_H70 : kv G Γ H70 (sh : Int) = kv G Γ H0 (sh : Int) := (kv_c (bo_copy z70_0)).trans g23_2
                refine W.eq (g2 := F0 m 73 ls []) rfl ?_
                refine lv_aload_n hx hb dX11_halls_73 rfl (lv_at hl 2 rfl) ?_
                refine th_getK hC cf_X11 hB.1 h0 ro_42 rfl (j := 4) (by decide) mm14 kf_X11_31 dX11_halls_74 ?_
                refine lv_iload hx hb dX11_halls_77 (lv_at hl 5 rfl) ?_
                refine lv_iload hx hb dX11_halls_79 (lv_at hl 0 rfl) ?_
                have hIo := hB.1
                refine th_call (th_runV (As := [.int j23_4, .int x7]) (rest := []) hC mf_X1_emptyInto km_X11_278 im_X1_emptyInto se_X1_emptyInto (c_X1_emptyInto l G Γ H70 hB.1 hR hU sh hsh j23_4 (by omega) (by omega) x7 (by omega) (by omega)) rfl rfl ⟨Nat.le_of_ble_eq_true rfl, Nat.le_of_ble_eq_true rfl⟩ hB.1 hsh ro_3 rfl rfl hl.1 rfl (Nat.le_of_ble_eq_true rfl) dX11_halls_81 ⟨by dsimp only; omega, by dsimp only; omega⟩) hB.2.1 (fun v81 H81 locs hp hz hS => ?_)
                obtain ⟨rfl, hI1, hf, hR, z81_0⟩ := hp
                have hB := th_B_c hB hI1 hS hf (by decide)
                have mm18 := (th_F_o hf h0 ro_42 (j := 4) (by decide) (by decide)).trans mm14
                have mm19 := (th_F_o hf h0 ro_42 (j := 0) (by decide) (by decide)).trans mm15
                have mm20 := (th_F_o hf hb1 ro_32 (j := 0) (by decide) (by decide)).trans mm16
                have mu21 := th_bits_F hf mu17 (by decide)
                have tv_w_H81 : kv G Γ H81 (sh : Int) = kv G Γ H0 (sh : Int) := (kv_c (bo_into z81_0)).trans tv_w_H70
                refine W.eq (g2 := F0 m 84 ls []) rfl ?_
                refine lv_aload_n hx hb dX11_halls_84 rfl (lv_at hl 2 rfl) ?_
                refine th_getR (j := 11) (r2 := 27) hC cf_X11 hB.1 h0 ro_42 rfl rfl kf_X11_79 dX11_halls_85 (fun b22 mb22 hb22 => ?_)
                have sb22 := (th_F_o hB.2.2 h0 ro_42 (j := 11) (by decide) (by decide)).symm.trans mb22
                refine lv_aload_n hx hb dX11_halls_88 rfl (lv_at hl 2 rfl) ?_
                refine th_getK hC cf_X11 hB.1 h0 ro_42 rfl (j := 4) (by decide) mm18 kf_X11_31 dX11_halls_89 ?_
                refine lv_aload_n hx hb dX11_halls_92 rfl (lv_at hl 2 rfl) ?_
                refine th_getK hC cf_X11 hB.1 h0 ro_42 rfl (j := 0) (by decide) mm19 kf_X11_12 dX11_halls_93 ?_
                have hIo := hB.1
                refine th_call (th_runV (As := []) (rest := [.ref sh, .ref b22]) hC mf_X8_forcedLaw km_X11_143 im_X8_forcedLaw se_X8_forcedLaw (c_X8_forcedLaw l G Γ H81 hB.1 hU b1 hb1) rfl rfl ⟨Nat.le_of_ble_eq_true rfl, Nat.le_of_ble_eq_true rfl⟩ hB.1 hb1 ro_32 rfl rfl hl.1 rfl (Nat.le_of_ble_eq_true rfl) dX11_halls_96 ⟨by dsimp only; omega, by dsimp only; omega⟩) hB.2.1 (fun v96 H96 locs hp hz hS => ?_)
                obtain ⟨v23, rfl, hv23, q96_0, rfl⟩ := hp
                have hB := th_B_s hB hS
                refine W.eq (g2 := F0 m 99 ls [v23, .ref sh, .ref b22]) rfl ?_
                refine lv_aload_n hx hb dX11_halls_99 rfl (lv_at hl 2 rfl) ?_
                refine th_getR (j := 9) (r2 := 11) hC cf_X11 hB.1 h0 ro_42 rfl rfl kf_X11_65 dX11_halls_100 (fun b24 mb24 hb24 => ?_)
                have sb24 := (th_F_o hB.2.2 h0 ro_42 (j := 9) (by decide) (by decide)).symm.trans mb24
                have hIo := hB.1
                refine th_call (th_runV (As := [.ref sh, v23, .ref b24]) (rest := []) hC mf_X7_prepare km_X11_255 im_X7_prepare se_X7_prepare (c_X7_prepare l G Γ H81 hB.1 hR hU b22 hb22 sh hsh v23 hv23 b24 hb24) rfl rfl ⟨Nat.le_of_ble_eq_true rfl, Nat.le_of_ble_eq_true rfl⟩ hB.1 hb22 ro_27 rfl rfl hl.1 rfl (Nat.le_of_ble_eq_true rfl) dX11_halls_103 ⟨by dsimp only; omega, by dsimp only; omega⟩) hB.2.1 (fun v103 H103 locs hp hz hS => ?_)
                obtain ⟨rfl, hI1, hf, hR, z103_0, z103_1⟩ := hp
                have hB := th_B_c hB hI1 hS hf (by decide)
                have mm25 := (th_F_o hf h0 ro_42 (j := 4) (by decide) (by decide)).trans mm18
                have mm26 := (th_F_o hf h0 ro_42 (j := 0) (by decide) (by decide)).trans mm19
                have mm27 := (th_F_o hf hb1 ro_32 (j := 0) (by decide) (by decide)).trans mm20
                have mm28 := (th_F_o hf h0 ro_42 (j := 11) (by decide) (by decide)).trans mb22
                have mm29 := (th_F_o hf h0 ro_42 (j := 9) (by decide) (by decide)).trans mb24
                have mu30 := th_bits_F hf mu21 (by decide)
                have tv_w_H103 : kv G Γ H103 (sh : Int) = kv G Γ H0 (sh : Int) := (kv_F hIo hB.1 hf (by decide)).trans tv_w_H81
                refine W.eq (g2 := F0 m 106 ls []) rfl ?_
                refine lv_aload_n hx hb dX11_halls_106 rfl (lv_at hl 2 rfl) ?_
                refine th_getK hC cf_X11 hB.1 h0 ro_42 rfl (j := 11) (by decide) mm28 kf_X11_79 dX11_halls_107 ?_
                refine lv_iconst (v := 1) hx hb dX11_halls_110 (by decide) ?_
                refine W.count (fun hc1 hc2 => ?_)
                have hIo := hB.1
                refine th_call (th_runV (As := [.int 1]) (rest := []) hC mf_X7_number km_X11_259 im_X7_number se_X7_number (c_X7_number l G Γ H103 hB.1 hR hU b22 hb22 1 ⟨_, z103_0, hb24⟩ ⟨_, z103_1, hsh⟩ u23 mu30) rfl rfl ⟨Nat.le_of_ble_eq_true rfl, Nat.le_of_ble_eq_true rfl⟩ hB.1 hb22 ro_27 rfl rfl hl.1 rfl (Nat.le_of_ble_eq_true rfl) dX11_halls_111 ⟨by dsimp only; omega, by dsimp only; omega⟩) hB.2.1 (fun v111 H111 locs hp hz hS => ?_)
                obtain ⟨x31, rfl, hI1, hf, hR, ⟨u111, hu111, ka111, kb111, kc111, kd111⟩⟩ := hp
                have hB := th_B_c hB hI1 hS hf (by decide)
                have mm32 := (th_F_o hf h0 ro_42 (j := 4) (by decide) (by decide)).trans mm25
                have mm33 := (th_F_o hf h0 ro_42 (j := 0) (by decide) (by decide)).trans mm26
                have mm34 := (th_F_o hf hb1 ro_32 (j := 0) (by decide) (by decide)).trans mm27
                have mm35 := (th_F_o hf h0 ro_42 (j := 11) (by decide) (by decide)).trans mm28
                have mm36 := (th_F_o hf h0 ro_42 (j := 9) (by decide) (by decide)).trans mm29
                have mm37 := (th_F_o hf hb22 ro_27 (j := 7) (by decide) (by decide)).trans z103_0
                have mm38 := (th_F_o hf hb22 ro_27 (j := 8) (by decide) (by decide)).trans z103_1
                have tv_w_H111 : kv G Γ H111 (sh : Int) = kv G Γ H0 (sh : Int) := (kv_F hIo hB.1 hf (by decide)).trans tv_w_H103
                have ku111 : th_pc u111 ≤ th_pc u0 ∧ th_pq u111 ≤ th_pq u0 := by omega
                refine W.tight (k := th_pc u0 - th_pc u111) (n := th_pq u0 - th_pq u111) (by omega) (by omega) ?_
                refine W.eq (g2 := F0 m 114 ls [.int x31]) rfl ?_
                refine tr_if_ne (tgt := 120) hx hb dX11_halls_114 (by decide) (Eq.refl _) (fun c114 => ?_) (fun c114 => ?_)
                · refine lv_iload_n hx hb dX11_halls_120 rfl (lv_at hl 4 rfl) ?_
                  refine lv_iload_n hx hb dX11_halls_121 rfl (lv_at hl 3 rfl) ?_
                  refine tr_icmp_ne (tgt := 134) hx hb dX11_halls_122 (by decide) (Eq.refl _) (Eq.refl _) (fun c122 => ?_) (fun c122 => ?_)
                  · refine tr_iincA (fun x39 => [(3, .int x39), (5, .int x7), (2, .int x3), (0, .ref a0), (1, .int p1), (4, .int j23_4)]) hx hb dX11_halls_134 hl (k := 4) rfl (by decide) (fun _ => rfl) (fun x39 ls hl => ?_)
                    have lx39 := ti_lo x39; have ux39 := ti_hi x39
                    exact jn137 H111 u111 locs ls x39 hB hR (lv_sub hl [2, 3, 4, 5, 0] rfl) tv_w_H111 hu111 ku111
                  · refine lv_bipush (v := 100) hx hb dX11_halls_125 (by decide) ?_
                    refine lv_iload hx hb dX11_halls_127 (lv_at hl 5 rfl) ?_
                    refine tr_imul hx hb dX11_halls_129 tk_100 (Eq.refl _) (by omega) (by omega) (fun x40 ex40 => ?_)
                    refine lv_iload hx hb dX11_halls_130 (lv_at hl 0 rfl) ?_
                    refine tr_iadd hx hb dX11_halls_132 (Eq.refl _) (Eq.refl _) (by omega) (by omega) (fun x41 ex41 => ?_)
                    refine W.count (fun hc1 hc2 => ?_)
                    rw [hH] at hc1 hc2
                    refine W.widen (k := th_pc u0) (n := th_pq u0) (Nat.sub_le _ _) (Nat.sub_le _ _) ?_
                    exact th_iret hC hH hr hlocks rfl hB.2.1 ⟨_, rfl, hB.1, hB.2.2, hR, tv_w_H111, ⟨u111, hu111, ku111.1, ku111.2, by omega, by omega⟩⟩ dX11_halls_133
                · refine lv_goto (tgt := 137) hx hb dX11_halls_117 (by decide) ?_
                  exact jn137 H111 u111 locs ls j23_3 hB hR (lv_sub hl [1, 2, 3, 5, 4] rfl) tv_w_H111 hu111 ku111
              · refine lv_goto (tgt := 137) hx hb dX11_halls_56 (by decide) ?_
                exact jn137 H23 u23 locs ls j23_3 hB hR (lv_sub hl [1, 2, 3, 5, 4] rfl) g23_2 g23_3 g23_4
    exact lp23 ((2147483648 : Int) - (1)).toNat H0 u0 locs ls 0 1 hB hR (lv_sub hl [2, 3, 4, 1, 0] rfl) (by decide) (by decide) rfl hu0 ku0 (by have w0 := tk_0; have w1 := tk_1; omega)
  · refine lv_iconst (v := (-1)) hx hb dX11_halls_5 (by decide) ?_
    refine W.count (fun hc1 hc2 => ?_)
    rw [hH] at hc1 hc2
    refine W.widen (k := th_pc u0) (n := th_pq u0) (Nat.sub_le _ _) (Nat.sub_le _ _) ?_
    exact th_iret hC hH hr hlocks rfl hB.2.1 ⟨_, rfl, hB.1, hB.2.2, hR, rfl, ⟨u0, hu0, ku0.1, ku0.2, by omega, by omega⟩⟩ dX11_halls_6

set_option maxHeartbeats 4000000 in
set_option maxRecDepth 100000 in
theorem c_X11_free_k (l : Launch) (G : th_G) (Γ : th_Ga) (H0 : Heap) (hI : th_I G Γ H0) (hR : th_RC G Γ H0) (hU : dv_U Γ) (a0 : Nat) (h0 : Γ a0 = (42, 0)) (sh : Nat) (hsh : Γ sh = (3, 0)) (msh : th_sl H0 a0 (G.1.2 11 4) = .ref sh) (u0 : Nat) (hu0 : th_bits G Γ H0 u0) : Met l yX11_free (.code yX11_free cX11_free 3 (some FieldType.int) :: th_tb) ({ frames := 16, cells := (th_pc u0), slots := (th_pq u0), locals := 451 } : Room) (th_P [.ref a0] G H0) (th_Q (fun (v : Option Value) (H1 : Heap) => ∃ r : Int32, v = some (.int r) ∧ th_I G Γ H1 ∧ th_F G Γ [(24, 0), (23, 3), (26, 0), (25, 0), (28, 0), (29, 0), (12, 0), (12, 1), (12, 2), (12, 3), (12, 4), (12, 5), (12, 6), (31, 0), (27, 5), (27, 6), (27, 7), (27, 8), (27, 9), (27, 10), (27, 11), (27, 12), (27, 13), (10, 0), (4, 0), (5, 0), (6, 0), (9, 0), (3, 7), (3, 8), (3, 9), (3, 10), (7, 0), (8, 0)] H0 H1 ∧ th_RC G Γ H1 ∧ (kv G Γ H1 (sh : Int) = kv G Γ H0 (sh : Int)) ∧ th_bp G Γ H0 H1 u0) G) (th_pc u0) (th_pq u0) (fun q => G.2.2 ≤ q) := by
  refine th_met RX11 (by decide) rfl (Nat.le_of_ble_eq_true rfl) ?_
  intro p e s m below meth c hC hH hr hlocks hnm ls hl
  have hx := hC.1
  have hb := hC.2.1
  have hB : th_B G Γ Γ [(24, 0), (23, 3), (26, 0), (25, 0), (28, 0), (29, 0), (12, 0), (12, 1), (12, 2), (12, 3), (12, 4), (12, 5), (12, 6), (31, 0), (27, 5), (27, 6), (27, 7), (27, 8), (27, 9), (27, 10), (27, 11), (27, 12), (27, 13), (10, 0), (4, 0), (5, 0), (6, 0), (9, 0), (3, 7), (3, 8), (3, 9), (3, 10), (7, 0), (8, 0)] H0 H0 [] := ⟨hI, va_S.rf, th_F_rf⟩
  have hl : lv_has ls 3 [(0, .ref a0)] := hl
  have ku0 : th_pc u0 ≤ th_pc u0 ∧ th_pq u0 ≤ th_pq u0 := ⟨Nat.le_refl _, Nat.le_refl _⟩
  refine W.widen (k := th_pc u0 - th_pc u0) (n := th_pq u0 - th_pq u0) (Nat.zero_le _) (Nat.zero_le _) ?_
  refine lv_iconst (v := 0) hx hb dX11_free_0 (by decide) ?_
  refine lv_istore_n (lv' := [(1, .int 0), (0, .ref a0)]) hx hb dX11_free_1 rfl hl (by decide) rfl (fun ls hl => ?_)
  refine lv_iconst (v := 0) hx hb dX11_free_2 (by decide) ?_
  refine lv_istore_n (lv' := [(2, .int 0), (1, .int 0), (0, .ref a0)]) hx hb dX11_free_3 rfl hl (by decide) rfl (fun ls hl => ?_)
  have lp4 : ∀ (n4 : Nat) (H4 : Heap) (u4 : Nat) (locs : List Loc) (ls : Array Slot) (j4_1 : Int32) (j4_2 : Int32), th_B G Γ Γ [(24, 0), (23, 3), (26, 0), (25, 0), (28, 0), (29, 0), (12, 0), (12, 1), (12, 2), (12, 3), (12, 4), (12, 5), (12, 6), (31, 0), (27, 5), (27, 6), (27, 7), (27, 8), (27, 9), (27, 10), (27, 11), (27, 12), (27, 13), (10, 0), (4, 0), (5, 0), (6, 0), (9, 0), (3, 7), (3, 8), (3, 9), (3, 10), (7, 0), (8, 0)] H0 H4 locs → th_RC G Γ H4 → lv_has ls 3 [(0, .ref a0), (1, .int j4_1), (2, .int j4_2)] → 0 ≤ j4_2.toInt → j4_2.toInt ≤ 9 → kv G Γ H4 (sh : Int) = kv G Γ H0 (sh : Int) → th_bits G Γ H4 u4 → (th_pc u4 ≤ th_pc u0 ∧ th_pq u4 ≤ th_pq u0) → (2147483648 : Int) - j4_2.toInt ≤ (n4 : Int) → W p l e ({ frames := 16, cells := (th_pc u0), slots := (th_pq u0), locals := 451 } : Room) s m ([.ref a0] : List Value).toArray below meth c H4 locs (th_pc u0 - th_pc u4) (th_pq u0 - th_pq u4) (MQ below (th_Q (fun (v : Option Value) (H1 : Heap) => ∃ r : Int32, v = some (.int r) ∧ th_I G Γ H1 ∧ th_F G Γ [(24, 0), (23, 3), (26, 0), (25, 0), (28, 0), (29, 0), (12, 0), (12, 1), (12, 2), (12, 3), (12, 4), (12, 5), (12, 6), (31, 0), (27, 5), (27, 6), (27, 7), (27, 8), (27, 9), (27, 10), (27, 11), (27, 12), (27, 13), (10, 0), (4, 0), (5, 0), (6, 0), (9, 0), (3, 7), (3, 8), (3, 9), (3, 10), (7, 0), (8, 0)] H0 H1 ∧ th_RC G Γ H1 ∧ (kv G Γ H1 (sh : Int) = kv G Γ H0 (sh : Int)) ∧ th_bp G Γ H0 H1 u0) G) ([.ref a0] : List Value).toArray s (th_pc u0) (th_pq u0) (fun q => G.2.2 ≤ q)) (F0 m 4 ls []) := by
    intro n4
    induction n4 with
    | zero => intro H4 u4 locs ls j4_1 j4_2 hB hR hl g4_0 g4_1 g4_2 g4_3 g4_4 hm4; exact absurd hm4 (by have := ti_hi j4_2; omega)
    | succ n4 ih4 =>
      intro H4 u4 locs ls j4_1 j4_2 hB hR hl g4_0 g4_1 g4_2 g4_3 g4_4 hm4
      have lj4_1 := ti_lo j4_1; have uj4_1 := ti_hi j4_1
      have lj4_2 := ti_lo j4_2; have uj4_2 := ti_hi j4_2
      have mm1 := (th_F_o hB.2.2 h0 ro_42 (j := 4) (by decide) (by decide)).trans msh
      have hm4 : (2147483648 : Int) - j4_2.toInt ≤ (n4 : Int) + 1 := by omega
      refine lv_iload_n hx hb dX11_free_4 rfl (lv_at hl 2 rfl) ?_
      refine lv_aload_n hx hb dX11_free_5 rfl (lv_at hl 0 rfl) ?_
      refine th_getR (j := 0) (r2 := 32) hC cf_X11 hB.1 h0 ro_42 rfl rfl kf_X11_12 dX11_free_6 (fun b2 mb2 hb2 => ?_)
      have sb2 := (th_F_o hB.2.2 h0 ro_42 (j := 0) (by decide) (by decide)).symm.trans mb2
      refine th_getR (j := 0) (r2 := 3) hC cf_X8 hB.1 hb2 ro_32 rfl rfl kf_X11_107 dX11_free_9 (fun b3 mb3 hb3 => ?_)
      have sb3 := (th_F_o hB.2.2 hb2 ro_32 (j := 0) (by decide) (by decide)).symm.trans mb3
      refine th_getI (j := 7) hC cf_X1 hB.1 hb3 ro_3 rfl rfl kf_X11_298 dX11_free_12 (fun x4 mx4 lx4 ux4 => ?_)
      refine tr_icmp_ge (tgt := 114) hx hb dX11_free_15 (by decide) (Eq.refl _) (Eq.refl _) (fun c15 => ?_) (fun c15 => ?_)
      · refine lv_iload_n hx hb dX11_free_114 rfl (lv_at hl 1 rfl) ?_
        refine W.count (fun hc1 hc2 => ?_)
        rw [hH] at hc1 hc2
        refine W.widen (k := th_pc u0) (n := th_pq u0) (Nat.sub_le _ _) (Nat.sub_le _ _) ?_
        exact th_iret hC hH hr hlocks rfl hB.2.1 ⟨_, rfl, hB.1, hB.2.2, hR, g4_2, ⟨u4, g4_3, g4_4.1, g4_4.2, by omega, by omega⟩⟩ dX11_free_115
      · refine lv_aload_n hx hb dX11_free_18 rfl (lv_at hl 0 rfl) ?_
        refine th_getK hC cf_X11 hB.1 h0 ro_42 rfl (j := 0) (by decide) mb2 kf_X11_12 dX11_free_19 ?_
        refine th_getK hC cf_X8 hB.1 hb2 ro_32 rfl (j := 0) (by decide) mb3 kf_X11_107 dX11_free_22 ?_
        refine lv_iload_n hx hb dX11_free_25 rfl (lv_at hl 2 rfl) ?_
        have hIo := hB.1
        refine th_call (th_runV (As := [.int j4_2]) (rest := []) hC mf_X1_isLaid km_X11_140 im_X1_isLaid se_X1_isLaid (c_X1_isLaid l G Γ H4 hB.1 hU b3 hb3 j4_2) rfl rfl ⟨Nat.le_of_ble_eq_true rfl, Nat.le_of_ble_eq_true rfl⟩ hB.1 hb3 ro_3 rfl rfl hl.1 rfl (Nat.le_of_ble_eq_true rfl) dX11_free_26 ⟨by dsimp only; omega, by dsimp only; omega⟩) hB.2.1 (fun v26 H26 locs hp hz hS => ?_)
        obtain ⟨x5, rfl, lx5, ux5, q26_0, q26_1, q26_2, rfl⟩ := hp
        have hB := th_B_s hB hS
        refine W.eq (g2 := F0 m 29 ls [.int x5]) rfl ?_
        have jn108 : ∀ (H108 : Heap) (u108 : Nat) (locs : List Loc) (ls : Array Slot) (j108_1 : Int32), th_B G Γ Γ [(24, 0), (23, 3), (26, 0), (25, 0), (28, 0), (29, 0), (12, 0), (12, 1), (12, 2), (12, 3), (12, 4), (12, 5), (12, 6), (31, 0), (27, 5), (27, 6), (27, 7), (27, 8), (27, 9), (27, 10), (27, 11), (27, 12), (27, 13), (10, 0), (4, 0), (5, 0), (6, 0), (9, 0), (3, 7), (3, 8), (3, 9), (3, 10), (7, 0), (8, 0)] H0 H108 locs → th_RC G Γ H108 → lv_has ls 3 [(0, .ref a0), (2, .int j4_2), (1, .int j108_1)] → kv G Γ H108 (sh : Int) = kv G Γ H0 (sh : Int) → th_bits G Γ H108 u108 → (th_pc u108 ≤ th_pc u0 ∧ th_pq u108 ≤ th_pq u0) → W p l e ({ frames := 16, cells := (th_pc u0), slots := (th_pq u0), locals := 451 } : Room) s m ([.ref a0] : List Value).toArray below meth c H108 locs (th_pc u0 - th_pc u108) (th_pq u0 - th_pq u108) (MQ below (th_Q (fun (v : Option Value) (H1 : Heap) => ∃ r : Int32, v = some (.int r) ∧ th_I G Γ H1 ∧ th_F G Γ [(24, 0), (23, 3), (26, 0), (25, 0), (28, 0), (29, 0), (12, 0), (12, 1), (12, 2), (12, 3), (12, 4), (12, 5), (12, 6), (31, 0), (27, 5), (27, 6), (27, 7), (27, 8), (27, 9), (27, 10), (27, 11), (27, 12), (27, 13), (10, 0), (4, 0), (5, 0), (6, 0), (9, 0), (3, 7), (3, 8), (3, 9), (3, 10), (7, 0), (8, 0)] H0 H1 ∧ th_RC G Γ H1 ∧ (kv G Γ H1 (sh : Int) = kv G Γ H0 (sh : Int)) ∧ th_bp G Γ H0 H1 u0) G) ([.ref a0] : List Value).toArray s (th_pc u0) (th_pq u0) (fun q => G.2.2 ≤ q)) (F0 m 108 ls []) := by
          intro H108 u108 locs ls j108_1 hB hR hl g108_0 g108_1 g108_2
          have lj108_1 := ti_lo j108_1; have uj108_1 := ti_hi j108_1
          have mm6 := (th_F_o hB.2.2 h0 ro_42 (j := 4) (by decide) (by decide)).trans msh
          have mm7 := (th_F_o hB.2.2 h0 ro_42 (j := 0) (by decide) (by decide)).trans sb2
          have mm8 := (th_F_o hB.2.2 hb2 ro_32 (j := 0) (by decide) (by decide)).trans sb3
          refine tr_iinc (fun x9 => [(2, .int x9), (0, .ref a0), (1, .int j108_1)]) hx hb dX11_free_108 hl (k := 1) rfl (Eq.refl _) tk_1 (by omega) (by omega) (by decide) (fun _ => rfl) (fun x9 ls ex9 hl => ?_)
          refine lv_goto (tgt := 4) hx hb dX11_free_111 (by decide) ?_
          exact ih4 H108 u108 locs ls j108_1 x9 hB hR (lv_sub hl [1, 2, 0] rfl) (by omega) (by omega) g108_0 g108_1 g108_2 (by omega)
        refine tr_if_ne (tgt := 35) hx hb dX11_free_29 (by decide) (Eq.refl _) (fun c29 => ?_) (fun c29 => ?_)
        · refine lv_aload_n hx hb dX11_free_35 rfl (lv_at hl 0 rfl) ?_
          refine th_getK hC cf_X11 hB.1 h0 ro_42 rfl (j := 4) (by decide) mm1 kf_X11_31 dX11_free_36 ?_
          refine lv_aload_n hx hb dX11_free_39 rfl (lv_at hl 0 rfl) ?_
          refine th_getK hC cf_X11 hB.1 h0 ro_42 rfl (j := 0) (by decide) mb2 kf_X11_12 dX11_free_40 ?_
          refine th_getK hC cf_X8 hB.1 hb2 ro_32 rfl (j := 0) (by decide) mb3 kf_X11_107 dX11_free_43 ?_
          have hIo := hB.1
          refine th_call (th_runV (As := [.ref b3]) (rest := []) hC mf_X1_copyFrom km_X11_275 im_X1_copyFrom se_X1_copyFrom (c_X1_copyFrom l G Γ H4 hB.1 hR hU sh hsh b3 hb3) rfl rfl ⟨Nat.le_of_ble_eq_true rfl, Nat.le_of_ble_eq_true rfl⟩ hB.1 hsh ro_3 rfl rfl hl.1 rfl (Nat.le_of_ble_eq_true rfl) dX11_free_46 ⟨by dsimp only; omega, by dsimp only; omega⟩) hB.2.1 (fun v46 H46 locs hp hz hS => ?_)
          obtain ⟨rfl, hI1, hf, hR, z46_0⟩ := hp
          have hB := th_B_c hB hI1 hS hf (by decide)
          have mm10 := (th_F_o hf h0 ro_42 (j := 4) (by decide) (by decide)).trans mm1
          have mm11 := (th_F_o hf h0 ro_42 (j := 0) (by decide) (by decide)).trans mb2
          have mm12 := (th_F_o hf hb2 ro_32 (j := 0) (by decide) (by decide)).trans mb3
          have mu13 := th_bits_F hf g4_3 (by decide)
          have tv_w_H46 : kv G Γ H46 (sh : Int) = kv G Γ H0 (sh : Int) := (kv_c (bo_copy z46_0)).trans g4_2
          refine W.eq (g2 := F0 m 49 ls []) rfl ?_
          refine lv_aload_n hx hb dX11_free_49 rfl (lv_at hl 0 rfl) ?_
          refine th_getK hC cf_X11 hB.1 h0 ro_42 rfl (j := 4) (by decide) mm10 kf_X11_31 dX11_free_50 ?_
          refine lv_iload_n hx hb dX11_free_53 rfl (lv_at hl 2 rfl) ?_
          have hIo := hB.1
          refine th_call (th_runV (As := [.int j4_2]) (rest := []) hC mf_X1_rollUp km_X11_301 im_X1_rollUp se_X1_rollUp (c_X1_rollUp l G Γ H46 hB.1 hR hU sh hsh j4_2) rfl rfl ⟨Nat.le_of_ble_eq_true rfl, Nat.le_of_ble_eq_true rfl⟩ hB.1 hsh ro_3 rfl rfl hl.1 rfl (Nat.le_of_ble_eq_true rfl) dX11_free_54 ⟨by dsimp only; omega, by dsimp only; omega⟩) hB.2.1 (fun v54 H54 locs hp hz hS => ?_)
          obtain ⟨rfl, hI1, hf, hR, z54_0⟩ := hp
          have hB := th_B_c hB hI1 hS hf (by decide)
          have mm14 := (th_F_o hf h0 ro_42 (j := 4) (by decide) (by decide)).trans mm10
          have mm15 := (th_F_o hf h0 ro_42 (j := 0) (by decide) (by decide)).trans mm11
          have mm16 := (th_F_o hf hb2 ro_32 (j := 0) (by decide) (by decide)).trans mm12
          have mu17 := th_bits_F hf mu13 (by decide)
          have tv_w_H54 : kv G Γ H54 (sh : Int) = kv G Γ H0 (sh : Int) := (kv_c (bo_roll z54_0)).trans tv_w_H46
          refine W.eq (g2 := F0 m 57 ls []) rfl ?_
          refine lv_aload_n hx hb dX11_free_57 rfl (lv_at hl 0 rfl) ?_
          refine th_getR (j := 11) (r2 := 27) hC cf_X11 hB.1 h0 ro_42 rfl rfl kf_X11_79 dX11_free_58 (fun b18 mb18 hb18 => ?_)
          have sb18 := (th_F_o hB.2.2 h0 ro_42 (j := 11) (by decide) (by decide)).symm.trans mb18
          refine lv_aload_n hx hb dX11_free_61 rfl (lv_at hl 0 rfl) ?_
          refine th_getK hC cf_X11 hB.1 h0 ro_42 rfl (j := 4) (by decide) mm14 kf_X11_31 dX11_free_62 ?_
          refine lv_aload_n hx hb dX11_free_65 rfl (lv_at hl 0 rfl) ?_
          refine th_getK hC cf_X11 hB.1 h0 ro_42 rfl (j := 0) (by decide) mm15 kf_X11_12 dX11_free_66 ?_
          have hIo := hB.1
          refine th_call (th_runV (As := []) (rest := [.ref sh, .ref b18]) hC mf_X8_forcedLaw km_X11_143 im_X8_forcedLaw se_X8_forcedLaw (c_X8_forcedLaw l G Γ H54 hB.1 hU b2 hb2) rfl rfl ⟨Nat.le_of_ble_eq_true rfl, Nat.le_of_ble_eq_true rfl⟩ hB.1 hb2 ro_32 rfl rfl hl.1 rfl (Nat.le_of_ble_eq_true rfl) dX11_free_69 ⟨by dsimp only; omega, by dsimp only; omega⟩) hB.2.1 (fun v69 H69 locs hp hz hS => ?_)
          obtain ⟨v19, rfl, hv19, q69_0, rfl⟩ := hp
          have hB := th_B_s hB hS
          refine W.eq (g2 := F0 m 72 ls [v19, .ref sh, .ref b18]) rfl ?_
          refine lv_aload_n hx hb dX11_free_72 rfl (lv_at hl 0 rfl) ?_
          refine th_getR (j := 9) (r2 := 11) hC cf_X11 hB.1 h0 ro_42 rfl rfl kf_X11_65 dX11_free_73 (fun b20 mb20 hb20 => ?_)
          have sb20 := (th_F_o hB.2.2 h0 ro_42 (j := 9) (by decide) (by decide)).symm.trans mb20
          have hIo := hB.1
          refine th_call (th_runV (As := [.ref sh, v19, .ref b20]) (rest := []) hC mf_X7_prepare km_X11_255 im_X7_prepare se_X7_prepare (c_X7_prepare l G Γ H54 hB.1 hR hU b18 hb18 sh hsh v19 hv19 b20 hb20) rfl rfl ⟨Nat.le_of_ble_eq_true rfl, Nat.le_of_ble_eq_true rfl⟩ hB.1 hb18 ro_27 rfl rfl hl.1 rfl (Nat.le_of_ble_eq_true rfl) dX11_free_76 ⟨by dsimp only; omega, by dsimp only; omega⟩) hB.2.1 (fun v76 H76 locs hp hz hS => ?_)
          obtain ⟨rfl, hI1, hf, hR, z76_0, z76_1⟩ := hp
          have hB := th_B_c hB hI1 hS hf (by decide)
          have mm21 := (th_F_o hf h0 ro_42 (j := 4) (by decide) (by decide)).trans mm14
          have mm22 := (th_F_o hf h0 ro_42 (j := 0) (by decide) (by decide)).trans mm15
          have mm23 := (th_F_o hf hb2 ro_32 (j := 0) (by decide) (by decide)).trans mm16
          have mm24 := (th_F_o hf h0 ro_42 (j := 11) (by decide) (by decide)).trans mb18
          have mm25 := (th_F_o hf h0 ro_42 (j := 9) (by decide) (by decide)).trans mb20
          have mu26 := th_bits_F hf mu17 (by decide)
          have tv_w_H76 : kv G Γ H76 (sh : Int) = kv G Γ H0 (sh : Int) := (kv_F hIo hB.1 hf (by decide)).trans tv_w_H54
          refine W.eq (g2 := F0 m 79 ls []) rfl ?_
          refine lv_aload_n hx hb dX11_free_79 rfl (lv_at hl 0 rfl) ?_
          refine th_getK hC cf_X11 hB.1 h0 ro_42 rfl (j := 11) (by decide) mm24 kf_X11_79 dX11_free_80 ?_
          refine lv_iconst (v := 2) hx hb dX11_free_83 (by decide) ?_
          refine W.count (fun hc1 hc2 => ?_)
          have hIo := hB.1
          refine th_call (th_runV (As := [.int 2]) (rest := []) hC mf_X7_number km_X11_259 im_X7_number se_X7_number (c_X7_number l G Γ H76 hB.1 hR hU b18 hb18 2 ⟨_, z76_0, hb20⟩ ⟨_, z76_1, hsh⟩ u4 mu26) rfl rfl ⟨Nat.le_of_ble_eq_true rfl, Nat.le_of_ble_eq_true rfl⟩ hB.1 hb18 ro_27 rfl rfl hl.1 rfl (Nat.le_of_ble_eq_true rfl) dX11_free_84 ⟨by dsimp only; omega, by dsimp only; omega⟩) hB.2.1 (fun v84 H84 locs hp hz hS => ?_)
          obtain ⟨x27, rfl, hI1, hf, hR, ⟨u84, hu84, ka84, kb84, kc84, kd84⟩⟩ := hp
          have hB := th_B_c hB hI1 hS hf (by decide)
          have mm28 := (th_F_o hf h0 ro_42 (j := 4) (by decide) (by decide)).trans mm21
          have mm29 := (th_F_o hf h0 ro_42 (j := 0) (by decide) (by decide)).trans mm22
          have mm30 := (th_F_o hf hb2 ro_32 (j := 0) (by decide) (by decide)).trans mm23
          have mm31 := (th_F_o hf h0 ro_42 (j := 11) (by decide) (by decide)).trans mm24
          have mm32 := (th_F_o hf h0 ro_42 (j := 9) (by decide) (by decide)).trans mm25
          have mm33 := (th_F_o hf hb18 ro_27 (j := 7) (by decide) (by decide)).trans z76_0
          have mm34 := (th_F_o hf hb18 ro_27 (j := 8) (by decide) (by decide)).trans z76_1
          have tv_w_H84 : kv G Γ H84 (sh : Int) = kv G Γ H0 (sh : Int) := (kv_F hIo hB.1 hf (by decide)).trans tv_w_H76
          have ku84 : th_pc u84 ≤ th_pc u0 ∧ th_pq u84 ≤ th_pq u0 := by omega
          refine W.tight (k := th_pc u0 - th_pc u84) (n := th_pq u0 - th_pq u84) (by omega) (by omega) ?_
          refine W.eq (g2 := F0 m 87 ls [.int x27]) rfl ?_
          refine lv_iconst (v := 1) hx hb dX11_free_87 (by decide) ?_
          refine tr_icmp_ne (tgt := 108) hx hb dX11_free_88 (by decide) (Eq.refl _) tk_1 (fun c88 => ?_) (fun c88 => ?_)
          · exact jn108 H84 u84 locs ls j4_1 hB hR (lv_sub hl [0, 2, 1] rfl) tv_w_H84 hu84 ku84
          · refine lv_aload_n hx hb dX11_free_91 rfl (lv_at hl 0 rfl) ?_
            refine th_getK hC cf_X11 hB.1 h0 ro_42 rfl (j := 11) (by decide) mm31 kf_X11_79 dX11_free_92 ?_
            refine lv_iload_n hx hb dX11_free_95 rfl (lv_at hl 2 rfl) ?_
            have hIo := hB.1
            refine th_call (th_runV (As := [.int j4_2]) (rest := []) hC mf_X7_fillsAlone km_X11_304 im_X7_fillsAlone se_X7_fillsAlone (c_X7_fillsAlone l G Γ H84 hB.1 hR hU b18 hb18 j4_2 (by omega) (by omega) ⟨_, mm33, hb20⟩ ⟨_, mm34, hsh⟩) rfl rfl ⟨Nat.le_of_ble_eq_true rfl, Nat.le_of_ble_eq_true rfl⟩ hB.1 hb18 ro_27 rfl rfl hl.1 rfl (Nat.le_of_ble_eq_true rfl) dX11_free_96 ⟨by dsimp only; omega, by dsimp only; omega⟩) hB.2.1 (fun v96 H96 locs hp hz hS => ?_)
            obtain ⟨x35, rfl, lx35, ux35, hI1, hf, hR⟩ := hp
            have hB := th_B_c hB hI1 hS hf (by decide)
            have mm36 := (th_F_o hf h0 ro_42 (j := 4) (by decide) (by decide)).trans mm28
            have mm37 := (th_F_o hf h0 ro_42 (j := 0) (by decide) (by decide)).trans mm29
            have mm38 := (th_F_o hf hb2 ro_32 (j := 0) (by decide) (by decide)).trans mm30
            have mm39 := (th_F_o hf h0 ro_42 (j := 11) (by decide) (by decide)).trans mm31
            have mm40 := (th_F_o hf h0 ro_42 (j := 9) (by decide) (by decide)).trans mm32
            have mm41 := (th_F_o hf hb18 ro_27 (j := 7) (by decide) (by decide)).trans mm33
            have mm42 := (th_F_o hf hb18 ro_27 (j := 8) (by decide) (by decide)).trans mm34
            have mu43 := th_bits_F hf hu84 (by decide)
            have tv_w_H96 : kv G Γ H96 (sh : Int) = kv G Γ H0 (sh : Int) := (kv_F hIo hB.1 hf (by decide)).trans tv_w_H84
            refine W.eq (g2 := F0 m 99 ls [.int x35]) rfl ?_
            refine tr_if_ne (tgt := 108) hx hb dX11_free_99 (by decide) (Eq.refl _) (fun c99 => ?_) (fun c99 => ?_)
            · exact jn108 H96 u84 locs ls j4_1 hB hR (lv_sub hl [0, 2, 1] rfl) tv_w_H96 mu43 ku84
            · refine lv_iload_n hx hb dX11_free_102 rfl (lv_at hl 1 rfl) ?_
              refine lv_iconst (v := 1) hx hb dX11_free_103 (by decide) ?_
              refine lv_iload_n hx hb dX11_free_104 rfl (lv_at hl 2 rfl) ?_
              refine lv_ishl hx hb dX11_free_105 ?_
              refine lv_topi (fun x44 ex44 => ?_)
              have lx44 := ti_lo x44; have ux44 := ti_hi x44
              refine lv_ior hx hb dX11_free_106 ?_
              refine lv_topi (fun x45 ex45 => ?_)
              have lx45 := ti_lo x45; have ux45 := ti_hi x45
              refine lv_istore_n (lv' := [(1, .int x45), (0, .ref a0), (2, .int j4_2)]) hx hb dX11_free_107 rfl hl (by decide) rfl (fun ls hl => ?_)
              exact jn108 H96 u84 locs ls x45 hB hR (lv_sub hl [1, 2, 0] rfl) tv_w_H96 mu43 ku84
        · refine lv_goto (tgt := 108) hx hb dX11_free_32 (by decide) ?_
          exact jn108 H4 u4 locs ls j4_1 hB hR (lv_sub hl [0, 2, 1] rfl) g4_2 g4_3 g4_4
  exact lp4 ((2147483648 : Int) - (0)).toNat H0 u0 [] ls 0 0 hB hR (lv_sub hl [2, 1, 0] rfl) (by decide) (by decide) rfl hu0 ku0 (by have w0 := tk_0; omega)
end
section
section TU
variable {G : th_G} {Γ : th_Ga} {H H0 : Heap} {a0 : Nat}
theorem th_RC_mm (hR : th_RC G Γ H) (hno : ∀ a o : Nat, Γ a ≠ (12, o)) {V : Nat → Value} (ho : th_OB G Γ H a0 3 7 V) {b1 b2 b3 b4 : Nat} (v0 : V 0 = .int 10) (v1 : V 1 = .ref b1) (v2 : V 2 = .ref b2) (v3 : V 3 = .ref b3) (v4 : V 4 = .ref b4) (v5 : V 5 = .int 0) {f1 : Nat → Int64} (k1 : th_MA G Γ H b1 1 1024 (fun i => .long (f1 i))) (k2 : th_MA G Γ H b2 0 1024 (fun _ => .int 0)) (k3 : th_MA G Γ H b3 0 1024 (fun _ => .int 0)) (k4 : th_MA G Γ H b4 0 512 (fun _ => .int 0))
    (d12 : b1 ≠ b2) (d13 : b1 ≠ b3) (d14 : b1 ≠ b4) (d23 : b2 ≠ b3) (d24 : b2 ≠ b4) (d34 : b3 ≠ b4) (e1 : b1 ≠ a0) (e2 : b2 ≠ a0) (e3 : b3 ≠ a0) (e4 : b4 ≠ a0) : th_RC G (th_up Γ a0 (12, 0)) H := by
  obtain ⟨r1, r2, -, -⟩ := hR
  have hu := ho.1
  obtain ⟨-, cell, q1, q2, q3, q4⟩ := ho
  have hn : ∀ j, j < 7 → th_sl H a0 (G.1.2 3 j) = V j := fun j hj => th_sl_at q1 (q4 j hj)
  have hold : ∀ q r o : Nat, th_up Γ a0 (12, 0) q = (r, o) → r ≠ 12 → Γ q = (r, o) := fun q r o h hr => by
    by_cases e : q = a0
    · rw [e, th_up_s] at h
      cases h
      exact absurd rfl hr
    · rw [th_up_n e] at h
      exact h
  have hmm : ∀ a o : Nat, th_up Γ a0 (12, 0) a = (12, o) → a = a0 := fun a o h => by
    by_cases e : a = a0
    · exact e
    · rw [th_up_n e] at h
      exact absurd h (hno a o)
  refine ⟨fun a o ha => r1 a o (hold a 3 o ha (by decide)), fun b o hb => r2 b o (hb.elim (fun w => Or.inl (hold b 18 o w (by decide))) (fun w => Or.inr (hold b 19 o w (by decide)))), fun a o ha => ?_, fun a a' o o' ha ha' => (hmm a o ha).trans (hmm a' o' ha').symm⟩
  cases hmm a o ha
  exact ⟨10, b1, b2, b3, b4, Or.inl rfl, (hn 0 (by decide)).trans v0, (hn 1 (by decide)).trans v1, (hn 2 (by decide)).trans v2, (hn 3 (by decide)).trans v3, (hn 4 (by decide)).trans v4, ⟨d12, d13, d14, d23, d24, d34⟩, ⟨f1, th_MA_up k1 e1⟩, ⟨fun _ => 0, th_MA_up k2 e2⟩, ⟨fun _ => 0, th_MA_up k3 e3⟩, ⟨fun _ => 0, th_MA_up k4 e4, fun _ => (by decide : 0 ≤ (0 : Int32).toInt ∧ (0 : Int32).toInt < 2 ^ 10)⟩, 0, (hn 5 (by decide)).trans v5, by decide, by decide⟩
theorem th_MR_mm (hno : ∀ a o : Nat, Γ a ≠ (12, o)) {V : Nat → Value} (ho : th_OB G Γ H a0 3 7 V) {b1 b2 b3 b4 : Nat} (v1 : V 1 = .ref b1) (v2 : V 2 = .ref b2) (v3 : V 3 = .ref b3) (v4 : V 4 = .ref b4) {n : Nat} (h1 : n ≤ b1) (h2 : n ≤ b2) (h3 : n ≤ b3) (h4 : n ≤ b4) {q : Nat} (h : th_MR G (th_up Γ a0 (12, 0)) H q) : n ≤ q := by
  obtain ⟨a, o, j, g, j1, j4, e⟩ := h
  obtain ⟨-, cell, q1, q2, q3, q4⟩ := ho
  have ea : a = a0 := by
    by_cases w : a = a0
    · exact w
    · rw [th_up_n w] at g
      exact absurd g (hno a o)
  subst ea
  have hn : ∀ j, j < 7 → th_sl H a (G.1.2 3 j) = V j := fun j hj => th_sl_at q1 (q4 j hj)
  have hj : j = 1 ∨ j = 2 ∨ j = 3 ∨ j = 4 := by omega
  rcases hj with rfl | rfl | rfl | rfl
  · cases ((hn 1 (by decide)).trans v1).symm.trans e; exact h1
  · cases ((hn 2 (by decide)).trans v2).symm.trans e; exact h2
  · cases ((hn 3 (by decide)).trans v3).symm.trans e; exact h3
  · cases ((hn 4 (by decide)).trans v4).symm.trans e; exact h4
end TU
end
section
section TMO
variable {p : Program} {l : Launch} {e : Env} {R : Room} {s : State} {m : MethodId} {args : Array Value} {below : List Frame} {meth : Method} {c : Code} {H H0 H1 : Heap} {locs : List Loc} {cells slots : Nat} {Q : State → Prop}
variable {cc : ByteArray} {pc : Nat} {ls : Array Slot} {rest : List Value} {G : th_G} {Γ : th_Ga} {a0 : Nat} {V : Nat → Value} {rows rows1 : List (Nat × Nat × (Nat → Value))}
/-- the reference under way: its object, and its rows, one behind the other -/
def th_MB (G : th_G) (Γ : th_Ga) (a0 : Nat) (H0 H : Heap) (locs : List Loc) (V : Nat → Value) (rows : List (Nat × Nat × (Nat → Value))) : Prop := th_N G Γ Γ a0 H0 H locs ∧ th_OB G Γ H a0 12 57 V ∧ H.size = H0.size + rows.length ∧ ∀ (i : Nat) (x : Nat × Nat × (Nat → Value)), rows[i]? = some x → H[H0.size + i]? = some (arrV (G.2.1 x.1) x.2.1 x.2.2)
theorem mb_new {nL : Nat} {own : String} (hC : th_C p s m args c cc nL own G) (hB : th_MB G Γ a0 H0 H locs V rows) {t k : Nat} {atype : ArrayType} {ty : FieldType} (ht : (th_ty G.2.1)[t]? = some (G.2.1 t, ty)) (hty : newarray.typeOf atype = ty) (hprim : va_RA s (G.2.1 t) ty = (s.vm.findClass ("[" ++ ty.toString) = some (G.2.1 t))) (harr : Cond.arrayClass ty ∈ th_tb)
    {n : Int32} {N : Nat} (hn : n.toInt = (N : Int)) (hbytes : N * componentBytes ty ≤ 536870912) (hcells : cells + 1 ≤ R.cells) (hslots : slots + N ≤ R.slots) (hdg : decode cc pc = .ok (.newarray atype, 2)) (hk : rows.length = k) (h1 : rows ++ [(t, N, fun _ => defaultValue ty)] = rows1)
    (kk : ∀ (H1 : Heap), th_MB G Γ a0 H0 H1 locs V rows1 → W p l e R s m args below meth c H1 locs (cells + 1) (slots + N) Q (F0 m (pc + 2) ls (.ref (H0.size + k) :: rest))) : W p l e R s m args below meth c H locs cells slots Q (F0 m pc ls (.int n :: rest)) := by
  subst hk h1
  obtain ⟨hN, ho, hz, hr⟩ := hB
  refine tc_newa hC hN ht hty hprim harr hn hbytes hcells hslots hdg (fun b H1 eb z oq hB1 k => ?_)
  rw [hz] at eb
  subst eb
  have hlt := hN.2.2.2.2.2.2
  refine kk H1 ⟨hB1, tc_OBo ho oq (by omega), by rw [z, hz, List.length_append]; rfl, fun i x hx => ?_⟩
  rcases Nat.lt_trichotomy i rows.length with w | w | w
  · rw [List.getElem?_append_left w] at hx
    rw [oq _ (by omega)]
    exact hr i x hx
  · subst w
    rw [List.getElem?_append_right (Nat.le_refl _), Nat.sub_self] at hx
    cases hx
    exact k.2.2
  · rw [List.getElem?_eq_none (by rw [List.length_append]; show rows.length + 1 ≤ i; omega)] at hx
    cases hx
theorem mb_put {nL : Nat} {C : String} (hC : th_C p s m args c cc nL C G) {T : u_T} {ty : Nat → FieldType} (hcf : th_CF 12 C T 57 ty) (hB : th_MB G Γ a0 H0 H locs V rows) {j index : Nat} {v : Value} (hj : j < 57) (hfin : (T j).2.2.2 = false) (hn : narrow (ty j) v = v) (hfit : fits (ty j) v = true)
    (hl : Cond.fieldLink C index C (T j).2.1 (T j).2.2.1 ∈ th_tb) (hdg : decode cc pc = .ok (.putfield index, 3))
    (kk : ∀ (H1 : Heap) (locs1 : List Loc), th_MB G Γ a0 H0 H1 locs1 (updV V j v) rows → W p l e R s m args below meth c H1 locs1 cells slots Q (F0 m (pc + 3) ls rest)) : W p l e R s m args below meth c H locs cells slots Q (F0 m pc ls (v :: .ref a0 :: rest)) := by
  obtain ⟨hN, ho, hz, hr⟩ := hB
  have hlt := hN.2.2.2.2.2.2
  exact tc_put hC hcf hN ho hj hfin hn hfit hl hdg (fun H1 locs1 hB1 ho z oq => kk H1 locs1 ⟨hB1, ho, z.trans hz, fun i x hx => (oq _ (by omega)).trans (hr i x hx)⟩)
theorem mb_putF {nL : Nat} {C : String} (hC : th_C p s m args c cc nL C G) {T : u_T} {ty : Nat → FieldType} (hcf : th_CF 12 C T 57 ty) (hB : th_MB G Γ a0 H0 H locs V rows) {j index : Nat} {v : Value} (hj : j < 57) (hfin : (T j).2.2.2 = true) (hin2 : meth.name = "<init>") (hn : narrow (ty j) v = v) (hfit : fits (ty j) v = true)
    (hl : Cond.fieldLink C index C (T j).2.1 (T j).2.2.1 ∈ th_tb) (hdg : decode cc pc = .ok (.putfield index, 3))
    (kk : ∀ (H1 : Heap) (locs1 : List Loc), th_MB G Γ a0 H0 H1 locs1 (updV V j v) rows → W p l e R s m args below meth c H1 locs1 cells slots Q (F0 m (pc + 3) ls rest)) : W p l e R s m args below meth c H locs cells slots Q (F0 m pc ls (v :: .ref a0 :: rest)) := by
  obtain ⟨hN, ho, hz, hr⟩ := hB
  have hlt := hN.2.2.2.2.2.2
  exact tc_putF hC hcf hN ho hj hfin hin2 hn hfit hl hdg (fun H1 locs1 hB1 ho z oq => kk H1 locs1 ⟨hB1, ho, z.trans hz, fun i x hx => (oq _ (by omega)).trans (hr i x hx)⟩)
theorem mb_MA (hI0 : th_I G Γ H0) (hB : th_MB G Γ a0 H0 H locs V rows) {k t N : Nat} {f : Nat → Value} (hk : rows[k]? = some (t, N, f)) : th_MA G Γ H (H0.size + k) t N f := by
  have h1 := hB.1.2.2.2.2.2.1
  have h2 := hB.1.2.2.2.2.2.2
  exact ⟨by omega, tc_un hI0 (Nat.le_add_right _ _), hB.2.2.2 k _ hk⟩
theorem mb_set (hB : th_MB G Γ a0 H0 H locs V rows) {k t N : Nat} {f g : Nat → Value} {locs1 : List Loc} (hk : rows[k]? = some (t, N, f)) (hB1 : th_N G Γ Γ a0 H0 H1 locs1) (hm : th_MA G Γ H1 (H0.size + k) t N g) (z : H1.size = H.size) (oq : ∀ q, q ≠ H0.size + k → H1[q]? = H[q]?) : th_MB G Γ a0 H0 H1 locs1 V (rows.set k (t, N, g)) := by
  obtain ⟨hN, ho, hz, hr⟩ := hB
  have hlt := hN.2.2.2.2.2.2
  refine ⟨hB1, tc_OBo ho oq (by omega), by rw [z, hz, List.length_set], fun j y hy => ?_⟩
  by_cases w : k = j
  · subst w
    rw [List.getElem?_set_self (List.getElem?_eq_some_iff.mp hk).1] at hy
    cases hy
    exact hm.2.2
  · rw [List.getElem?_set_ne w] at hy
    rw [oq _ (by omega)]
    exact hr j y hy
theorem mb_ist {nL : Nat} {own : String} (hC : th_C p s m args c cc nL own G) (hI0 : th_I G Γ H0) (hB : th_MB G Γ a0 H0 H locs V rows) {k N : Nat} {f : Nat → Value} (hk : rows[k]? = some (0, N, f)) {i v : Int32} {x : Nat} (hi : i.toInt = (x : Int)) (h1 : x < N) (hdg : decode cc pc = .ok (.iastore, 1)) (hr1 : rows.set k (0, N, updV f x (.int v)) = rows1)
    (kk : ∀ (H1 : Heap) (locs1 : List Loc), th_MB G Γ a0 H0 H1 locs1 V rows1 → W p l e R s m args below meth c H1 locs1 cells slots Q (F0 m (pc + 1) ls rest)) : W p l e R s m args below meth c H locs cells slots Q (F0 m pc ls (.int v :: .int i :: .ref (H0.size + k) :: rest)) := by
  subst hr1
  exact tc_iast (x := (x : Int)) hC hB.1 (mb_MA hI0 hB hk) (Nat.le_add_right _ _) hi (Int.natCast_nonneg x) (by omega) hdg (fun H1 locs1 hB1 hm z oq => kk H1 locs1 (mb_set hB hk hB1 hm z oq))
/-- the words under way: n of them stand -/
def th_MW (G : th_G) (Γ : th_Ga) (a0 : Nat) (H0 H : Heap) (locs : List Loc) (V : Nat → Value) (rows : List (Nat × Nat × (Nat → Value))) (n : Nat) : Prop := ∃ f : Nat → Value, th_MB G Γ a0 H0 H locs V (rows ++ [(3, 127, f)]) ∧ ∀ i, i < n → ∃ x : Int32, f i = .int x ∧ x.toInt = th_wl.getD i 0
theorem mb_w {nL : Nat} {own : String} (hC : th_C p s m args c cc nL own G) (hI0 : th_I G Γ H0) {n k : Nat} (hB : th_MW G Γ a0 H0 H locs V rows n) (hk : rows.length = k) {i v : Int32} (hi : i.toInt = (n : Int)) (hn : n < 127) (hv : narrow .byte (.int v) = .int v) (hw : v.toInt = th_wl.getD n 0) (hdg : decode cc pc = .ok (.bastore, 1))
    (kk : ∀ (H1 : Heap) (locs1 : List Loc), th_MW G Γ a0 H0 H1 locs1 V rows (n + 1) → W p l e R s m args below meth c H1 locs1 cells slots Q (F0 m (pc + 1) ls rest)) : W p l e R s m args below meth c H locs cells slots Q (F0 m pc ls (.int v :: .int i :: .ref (H0.size + k) :: rest)) := by
  subst hk
  obtain ⟨f, hB, hf⟩ := hB
  have hk : (rows ++ [(3, 127, f)])[rows.length]? = some (3, 127, f) := by rw [List.getElem?_append_right (Nat.le_refl _), Nat.sub_self]; rfl
  refine tc_bast (x := (n : Int)) hC hB.1 (mb_MA hI0 hB hk) (Nat.le_add_right _ _) hi (Int.natCast_nonneg n) (by omega) hv hdg (fun H1 locs1 hB1 hm z oq => kk H1 locs1 ⟨updV f n (.int v), ?_, fun j hj => ?_⟩)
  · have h := mb_set hB hk hB1 hm z oq
    rw [List.set_append_right _ _ (Nat.le_refl _), Nat.sub_self] at h
    exact h
  · by_cases w : j = n
    · subst w
      exact ⟨v, if_pos rfl, hw⟩
    · obtain ⟨x, e1, e2⟩ := hf j (by omega)
      exact ⟨x, (if_neg w).trans e1, e2⟩
/-- a word's letter: dup, its place, the letter, the store -/
theorem mb_w4 {nL : Nat} {own : String} (hC : th_C p s m args c cc nL own G) (hI0 : th_I G Γ H0) {n k n' pc1 pc2 pc3 pc' : Nat} (hB : th_MW G Γ a0 H0 H locs V rows n) (hk : rows.length = k) {x y : Int} (d0 : decode cc pc = .ok (.dup, 1)) (h1 : pc + 1 = pc1) (d1 : decode cc pc1 = .ok (.bipush x, 2)) (h2 : pc1 + 2 = pc2) (d2 : decode cc pc2 = .ok (.bipush y, 2)) (h3 : pc2 + 2 = pc3) (d3 : decode cc pc3 = .ok (.bastore, 1)) (h4 : pc3 + 1 = pc') (h5 : n + 1 = n')
    (hi : (Int8.ofInt x).toInt32.toInt = (n : Int)) (hn : n < 127) (hv : narrow .byte (.int (Int8.ofInt y).toInt32) = .int (Int8.ofInt y).toInt32) (hw : (Int8.ofInt y).toInt32.toInt = th_wl.getD n 0)
    (kk : ∀ (H1 : Heap) (locs1 : List Loc), th_MW G Γ a0 H0 H1 locs1 V rows n' → W p l e R s m args below meth c H1 locs1 cells slots Q (F0 m pc' ls (.ref (H0.size + k) :: rest))) : W p l e R s m args below meth c H locs cells slots Q (F0 m pc ls (.ref (H0.size + k) :: rest)) := by
  subst h1 h2 h3 h4 h5
  exact lv_dup hC.1 hC.2.1 d0 rfl (lv_bipush hC.1 hC.2.1 d1 rfl (lv_bipush hC.1 hC.2.1 d2 rfl (mb_w hC hI0 hB hk hi hn hv hw d3 kk)))
theorem mb_w4c {nL : Nat} {own : String} (hC : th_C p s m args c cc nL own G) (hI0 : th_I G Γ H0) {n k n' pc1 pc2 pc3 pc' : Nat} (hB : th_MW G Γ a0 H0 H locs V rows n) (hk : rows.length = k) {x y : Int} (d0 : decode cc pc = .ok (.dup, 1)) (h1 : pc + 1 = pc1) (d1 : decode cc pc1 = .ok (.iconst x, 1)) (h2 : pc1 + 1 = pc2) (d2 : decode cc pc2 = .ok (.bipush y, 2)) (h3 : pc2 + 2 = pc3) (d3 : decode cc pc3 = .ok (.bastore, 1)) (h4 : pc3 + 1 = pc') (h5 : n + 1 = n')
    (hi : (Int32.ofInt x).toInt = (n : Int)) (hn : n < 127) (hv : narrow .byte (.int (Int8.ofInt y).toInt32) = .int (Int8.ofInt y).toInt32) (hw : (Int8.ofInt y).toInt32.toInt = th_wl.getD n 0)
    (kk : ∀ (H1 : Heap) (locs1 : List Loc), th_MW G Γ a0 H0 H1 locs1 V rows n' → W p l e R s m args below meth c H1 locs1 cells slots Q (F0 m pc' ls (.ref (H0.size + k) :: rest))) : W p l e R s m args below meth c H locs cells slots Q (F0 m pc ls (.ref (H0.size + k) :: rest)) := by
  subst h1 h2 h3 h4 h5
  exact lv_dup hC.1 hC.2.1 d0 rfl (lv_iconst hC.1 hC.2.1 d1 rfl (lv_bipush hC.1 hC.2.1 d2 rfl (mb_w hC hI0 hB hk hi hn hv hw d3 kk)))
/-- the reference's names -/
def mo_Ga (Γ : th_Ga) (a0 n : Nat) : th_Ga := fun q => if q = a0 then (46, 0) else if n ≤ q ∧ q < n + 24 then (47 + (q - n), a0) else Γ q
def mo_rok (i : Nat) (x : Nat × Nat × (Nat → Value)) : Prop := ∃ (n1 n2 : Nat) (es : Nat → th_sp), th_ro (47 + i) = some (.inr (x.1, n1, n2, es)) ∧ n1 ≤ x.2.1 ∧ x.2.1 ≤ n2 ∧ ∀ (Γ : th_Ga) (a j : Nat), j < x.2.1 → th_sat Γ a (es j) (x.2.2 j)
theorem mo_Ga_a {n : Nat} : mo_Ga Γ a0 n a0 = (46, 0) := if_pos rfl
theorem mo_Ga_r {n i : Nat} (h : a0 < n) (hi : i < 24) : mo_Ga Γ a0 n (n + i) = (47 + i, a0) := by
  unfold mo_Ga
  rw [if_neg (by omega), if_pos (by omega), Nat.add_sub_cancel_left]
theorem mo_Ga_o {n q : Nat} (h1 : q ≠ a0) (h2 : ¬ (n ≤ q ∧ q < n + 24)) : mo_Ga Γ a0 n q = Γ q := by
  unfold mo_Ga
  rw [if_neg h1, if_neg h2]
/-- three kinds of cells -/
theorem mo_Ga_c {n q r o : Nat} (h : mo_Ga Γ a0 n q = (r, o)) : (q = a0 ∧ r = 46 ∧ o = 0) ∨ (q ≠ a0 ∧ n ≤ q ∧ q < n + 24 ∧ r = 47 + (q - n) ∧ o = a0) ∨ (q ≠ a0 ∧ ¬ (n ≤ q ∧ q < n + 24) ∧ Γ q = (r, o)) := by
  unfold mo_Ga at h
  by_cases e : q = a0
  · rw [if_pos e] at h
    cases h
    exact Or.inl ⟨e, rfl, rfl⟩
  · rw [if_neg e] at h
    by_cases w : n ≤ q ∧ q < n + 24
    · rw [if_pos w] at h
      cases h
      exact Or.inr (Or.inl ⟨e, w.1, w.2, rfl, rfl⟩)
    · rw [if_neg w] at h
      exact Or.inr (Or.inr ⟨e, w, h⟩)
theorem mb_I (hI0 : th_I G Γ H0) (hB : th_MB G Γ a0 H0 H locs V rows) (hlen : rows.length = 24) (hrows : ∀ (i : Nat) (x : Nat × Nat × (Nat → Value)), rows[i]? = some x → mo_rok i x)
    (hV : ∀ (j : Nat) (q : th_sp), th_f46[j]? = some q → ∀ Γ1 : th_Ga, (∀ i, i < 24 → Γ1 (H0.size + i) = (47 + i, a0)) → th_sat Γ1 a0 q (V j)) : th_I G (mo_Ga Γ a0 H0.size) H := by
  obtain ⟨⟨hI, hS, hO, -, hu, hsz, hlt⟩, ⟨-, cell, q1, q2, q3, q4⟩, hz, hr⟩ := hB
  intro a r o d hg hd
  rcases mo_Ga_c hg with ⟨e1, e2, e3⟩ | ⟨e1, e2, e3, e4, e5⟩ | ⟨e1, e2, e3⟩
  · subst e1 e2 e3
    cases ro_46.symm.trans hd
    refine ⟨hsz, ?_⟩
    have hn : ∀ j, j < 57 → th_sl H a (G.1.2 12 j) = V j := fun j hj => th_sl_at q1 (q4 j hj)
    refine ⟨⟨cell, q1, q2, q3, fun j hj => ?_⟩, fun j q hq => ?_⟩
    · show cell.slots[G.1.2 12 j]? = some (th_sl H a (G.1.2 12 j))
      rw [hn j hj]
      exact q4 j hj
    · have hj : j < 57 := (List.getElem?_eq_some_iff.mp hq).1
      rw [hn j hj]
      exact hV j q hq _ (fun i hi => mo_Ga_r hlt hi)
  · have hl : a - H0.size < rows.length := by omega
    have hx : rows[a - H0.size]? = some rows[a - H0.size] := List.getElem?_eq_getElem hl
    obtain ⟨n1, n2, es, h1, h2, h3, h4⟩ := hrows _ _ hx
    rw [e4, h1] at hd
    cases hd
    have hc := hr _ _ hx
    rw [show H0.size + (a - H0.size) = a by omega] at hc
    have hn : ∀ x, x < (rows[a - H0.size]).2.1 → th_sl H a x = (rows[a - H0.size]).2.2 x := fun x hx => th_sl_at hc (arrV_read _ _ hx)
    refine ⟨by omega, _, h2, h3, ?_, fun i hi => ?_⟩
    · rw [hc]
      exact congrArg some (th_arrV (fun x hx => (hn x hx).symm))
    · rw [hn i hi]
      exact h4 _ _ i hi
  · obtain ⟨g1, g2⟩ := hI a r o d e3 hd
    refine ⟨g1, th_ok_up (th_gd_all r d hd) (fun b r o h1 h2 => ?_) g2⟩
    have hb : th_ro (Γ b).1 ≠ none := fun w => by
      rw [h1] at w
      rw [w] at h2
      cases h2
    exact (mo_Ga_o (q := b) (a0 := a0) (n := H0.size) (fun w => hb (by rw [w]; exact hu)) (fun w => hb (tc_un hI0 w.1))).trans h1
theorem mb_NY (hI0 : th_I G Γ H0) (hR0 : th_RC G Γ H0) (hm0 : ¬ th_MR G Γ H0 a0) (hB : th_MB G Γ a0 H0 H locs V rows) (hI1 : th_I G (mo_Ga Γ a0 H0.size) H) : th_NY G Γ (mo_Ga Γ a0 H0.size) a0 46 [46, 47, 48, 49, 50, 51, 52, 53, 54, 55, 56, 57, 58, 59, 60, 61, 62, 63, 64, 65, 66, 67, 68, 69, 70] H0 H := by
  obtain ⟨⟨hI, hS, hO, -, hu, hsz, hlt⟩, -, hz, -⟩ := hB
  have hX : ∀ q, q < H0.size → q ≠ a0 → mo_Ga Γ a0 H0.size q = Γ q ∧ H[q]? = H0[q]? := fun q h1 h2 => ⟨mo_Ga_o h2 (by omega), hO q h1 h2⟩
  have hle : H0.size ≤ H.size := by omega
  have hun : ∀ q r o : Nat, Γ q = (r, o) → (q = a0 ∨ H0.size ≤ q) → th_ro r = none := fun q r o h1 h2 => by
    have : th_ro (Γ q).1 = none := by
      rcases h2 with h2 | h2
      · rw [h2]; exact hu
      · exact tc_un hI0 h2
    rw [h1] at this
    exact this
  refine ⟨⟨hI1, hle, hX⟩, th_RC_X hI0 hR0 hu hm0 hI1 hle hX (fun q r o hg hq => ?_), mo_Ga_a, fun q w => ?_, fun q x o hg hq hs => ?_⟩
  · rcases mo_Ga_c hg with ⟨e1, e2, e3⟩ | ⟨e1, e2, e3, e4, e5⟩ | ⟨e1, e2, e3⟩
    · subst e2
      exact ⟨fun w => absurd w (by decide), fun w => absurd w (by decide), by decide⟩
    · exact ⟨fun w => absurd w (by omega), fun w => absurd w (by omega), by omega⟩
    · have hn := hun q r o e3 hq
      refine ⟨fun w => ?_, fun w => ?_, fun w => ?_⟩
      · subst w; cases hn
      · rcases w with w | w <;> (subst w; cases hn)
      · subst w; cases hn
  · obtain ⟨a, o, j, g, j1, j4, e⟩ := w
    rcases mo_Ga_c g with ⟨e1, e2, e3⟩ | ⟨e1, e2, e3, e4, e5⟩ | ⟨e1, e2, e3⟩
    · cases e2
    · omega
    · have hal := th_ok_lt (hI0 a 12 o _ e3 ro_12).2
      exact Or.inl ⟨a, o, j, e3, j1, j4, (th_sl_kept (hO a hal e1) _).symm.trans e⟩
  · rcases mo_Ga_c hg with ⟨e1, e2, e3⟩ | ⟨e1, e2, e3, e4, e5⟩ | ⟨e1, e2, e3⟩
    · subst e2
      decide
    · exact (show ∀ x, x < 71 → 46 ≤ x → x ∈ [46, 47, 48, 49, 50, 51, 52, 53, 54, 55, 56, 57, 58, 59, 60, 61, 62, 63, 64, 65, 66, 67, 68, 69, 70] by decide) x (by omega) (by omega)
    · rw [hun q x o e3 hq] at hs
      cases hs
theorem mo_k0 {k : Int → Int} (e72 : k 72 = -1) (e71 : k 71 = 0) (e69 : k 69 = 0) (e67 : k 67 = 8) (e68 : k 68 = 8) : mo_kg k :=
  ⟨⟨by omega, by omega, fun t t0 t1 => absurd t1 (by omega)⟩, ⟨by omega, fun c c0 c1 => absurd c1 (by omega), fun c d c0 c1 => absurd c1 (by omega)⟩, by omega, by omega, fun c c0 c1 => absurd c1 (by omega)⟩
theorem mb_RN (hB : th_MB G Γ a0 H0 H locs V rows) {Γ1 : th_Ga} (hR : th_RC G Γ1 H) {f : Nat → Value} {N : Nat} (hk : rows[1]? = some (0, N, f)) (hN : 73 ≤ N) (hh : rows[3]? = some (2, 2, fun _ => .int 0)) (v2 : V 2 = .ref (H0.size + 1)) (v4 : V 4 = .ref (H0.size + 3)) (v33 : V 33 = .int 0) (e72 : f 72 = .int (-1)) (e71 : f 71 = .int 0) (e69 : f 69 = .int 0) (e67 : f 67 = .int 8) (e68 : f 68 = .int 8) : th_RN a0 G Γ1 H := by
  obtain ⟨-, ⟨-, cell, q1, q2, q3, q4⟩, hz, hr⟩ := hB
  have hn : ∀ j, j < 57 → th_sl H a0 (G.1.2 12 j) = V j := fun j hj => th_sl_at q1 (q4 j hj)
  have s2 := (hn 2 (by decide)).trans v2
  have s4 := (hn 4 (by decide)).trans v4
  have s33 := (hn 33 (by decide)).trans v33
  have kx : ∀ (z : Nat) (x : Int32), z < N → f z = .int x → mo_v G H a0 2 (z : Int) = x.toInt := fun z x hz hx => mo_vat s2 ((th_sl_at (hr 1 _ hk) (arrV_read _ _ (by show ((z : Int)).toNat < N; omega))).trans (by show f ((z : Int)).toNat = _; rw [Int.toNat_natCast]; exact hx)) (Int.natCast_nonneg z)
  refine ⟨hR, mo_k0 (kx 72 _ (by omega) e72) (kx 71 _ (by omega) e71) (kx 69 _ (by omega) e69) (kx 67 _ (by omega) e67) (kx 68 _ (by omega) e68), fun q q0 q1 hq => ?_, fun r r0 r1 => ?_⟩
  · have : mo_v G H a0 4 q = (0 : Int32).toInt := mo_vat s4 (th_sl_at (hr 3 _ hh) (arrV_read _ _ (by show q.toNat < 2; omega))) q0
    rw [this] at hq
    cases hq
  · have : mo_f G H a0 33 = (0 : Int32).toInt := mo_fat s33
    rw [this] at r1
    exact absurd r1 (by have : (0 : Int32).toInt = 0 := rfl; omega)
end TMO
theorem mt_5680 : (5680 : Int32).toInt = 5680 := rfl
theorem mt_11360 : (11360 : Int32).toInt = 11360 := rfl
def mr_1 : List (Nat × Nat × (Nat → Value)) := [(0, 7, fun _ => defaultValue .int)]
def mr_2 : List (Nat × Nat × (Nat → Value)) := [(0, 7, fun _ => defaultValue .int), (0, 5680, fun _ => defaultValue .int)]
def mr_3 : List (Nat × Nat × (Nat → Value)) := [(0, 7, fun _ => defaultValue .int), (0, 5680, fun _ => defaultValue .int), (0, 11360, fun _ => defaultValue .int)]
def mr_4 : List (Nat × Nat × (Nat → Value)) := [(0, 7, fun _ => defaultValue .int), (0, 5680, fun _ => defaultValue .int), (0, 11360, fun _ => defaultValue .int), (2, 2, fun _ => defaultValue .boolean)]
def mr_5 : List (Nat × Nat × (Nat → Value)) := [(0, 7, fun _ => defaultValue .int), (0, 5680, fun _ => defaultValue .int), (0, 11360, fun _ => defaultValue .int), (2, 2, fun _ => defaultValue .boolean), (0, 58, fun _ => defaultValue .int)]
def mr_7 (f : Nat → Value) : List (Nat × Nat × (Nat → Value)) := [(0, 7, fun _ => defaultValue .int), (0, 5680, fun _ => defaultValue .int), (0, 11360, fun _ => defaultValue .int), (2, 2, fun _ => defaultValue .boolean), (0, 58, fun _ => defaultValue .int), (3, 127, f), (3, 400, fun _ => defaultValue .byte)]
def mr_8 (f : Nat → Value) : List (Nat × Nat × (Nat → Value)) := [(0, 7, fun _ => defaultValue .int), (0, 5680, fun _ => defaultValue .int), (0, 11360, fun _ => defaultValue .int), (2, 2, fun _ => defaultValue .boolean), (0, 58, fun _ => defaultValue .int), (3, 127, f), (3, 400, fun _ => defaultValue .byte), (0, 5, fun _ => defaultValue .int)]
def mr_9 (f : Nat → Value) : List (Nat × Nat × (Nat → Value)) := [(0, 7, fun _ => defaultValue .int), (0, 5680, fun _ => defaultValue .int), (0, 11360, fun _ => defaultValue .int), (2, 2, fun _ => defaultValue .boolean), (0, 58, fun _ => defaultValue .int), (3, 127, f), (3, 400, fun _ => defaultValue .byte), (0, 5, fun _ => defaultValue .int), (0, 401, fun _ => defaultValue .int)]
def mr_10 (f : Nat → Value) : List (Nat × Nat × (Nat → Value)) := [(0, 7, fun _ => defaultValue .int), (0, 5680, fun _ => defaultValue .int), (0, 11360, fun _ => defaultValue .int), (2, 2, fun _ => defaultValue .boolean), (0, 58, fun _ => defaultValue .int), (3, 127, f), (3, 400, fun _ => defaultValue .byte), (0, 5, fun _ => defaultValue .int), (0, 401, fun _ => defaultValue .int), (0, 401, fun _ => defaultValue .int)]
def mr_11 (f : Nat → Value) : List (Nat × Nat × (Nat → Value)) := [(0, 7, fun _ => defaultValue .int), (0, 5680, fun _ => defaultValue .int), (0, 11360, fun _ => defaultValue .int), (2, 2, fun _ => defaultValue .boolean), (0, 58, fun _ => defaultValue .int), (3, 127, f), (3, 400, fun _ => defaultValue .byte), (0, 5, fun _ => defaultValue .int), (0, 401, fun _ => defaultValue .int), (0, 401, fun _ => defaultValue .int), (0, 401, fun _ => defaultValue .int)]
def mr_12 (f : Nat → Value) : List (Nat × Nat × (Nat → Value)) := [(0, 7, fun _ => defaultValue .int), (0, 5680, fun _ => defaultValue .int), (0, 11360, fun _ => defaultValue .int), (2, 2, fun _ => defaultValue .boolean), (0, 58, fun _ => defaultValue .int), (3, 127, f), (3, 400, fun _ => defaultValue .byte), (0, 5, fun _ => defaultValue .int), (0, 401, fun _ => defaultValue .int), (0, 401, fun _ => defaultValue .int), (0, 401, fun _ => defaultValue .int), (0, 8, fun _ => defaultValue .int)]
def mr_13 (f : Nat → Value) : List (Nat × Nat × (Nat → Value)) := [(0, 7, fun _ => defaultValue .int), (0, 5680, fun _ => defaultValue .int), (0, 11360, fun _ => defaultValue .int), (2, 2, fun _ => defaultValue .boolean), (0, 58, fun _ => defaultValue .int), (3, 127, f), (3, 400, fun _ => defaultValue .byte), (0, 5, fun _ => defaultValue .int), (0, 401, fun _ => defaultValue .int), (0, 401, fun _ => defaultValue .int), (0, 401, fun _ => defaultValue .int), (0, 8, fun _ => defaultValue .int), (0, 12, fun _ => defaultValue .int)]
def mr_14 (f : Nat → Value) : List (Nat × Nat × (Nat → Value)) := [(0, 7, fun _ => defaultValue .int), (0, 5680, fun _ => defaultValue .int), (0, 11360, fun _ => defaultValue .int), (2, 2, fun _ => defaultValue .boolean), (0, 58, fun _ => defaultValue .int), (3, 127, f), (3, 400, fun _ => defaultValue .byte), (0, 5, fun _ => defaultValue .int), (0, 401, fun _ => defaultValue .int), (0, 401, fun _ => defaultValue .int), (0, 401, fun _ => defaultValue .int), (0, 8, fun _ => defaultValue .int), (0, 12, fun _ => defaultValue .int), (0, 9, fun _ => defaultValue .int)]
def mr_15 (f : Nat → Value) : List (Nat × Nat × (Nat → Value)) := [(0, 7, fun _ => defaultValue .int), (0, 5680, fun _ => defaultValue .int), (0, 11360, fun _ => defaultValue .int), (2, 2, fun _ => defaultValue .boolean), (0, 58, fun _ => defaultValue .int), (3, 127, f), (3, 400, fun _ => defaultValue .byte), (0, 5, fun _ => defaultValue .int), (0, 401, fun _ => defaultValue .int), (0, 401, fun _ => defaultValue .int), (0, 401, fun _ => defaultValue .int), (0, 8, fun _ => defaultValue .int), (0, 12, fun _ => defaultValue .int), (0, 9, fun _ => defaultValue .int), (0, 480, fun _ => defaultValue .int)]
def mr_16 (f : Nat → Value) : List (Nat × Nat × (Nat → Value)) := [(0, 7, fun _ => defaultValue .int), (0, 5680, fun _ => defaultValue .int), (0, 11360, fun _ => defaultValue .int), (2, 2, fun _ => defaultValue .boolean), (0, 58, fun _ => defaultValue .int), (3, 127, f), (3, 400, fun _ => defaultValue .byte), (0, 5, fun _ => defaultValue .int), (0, 401, fun _ => defaultValue .int), (0, 401, fun _ => defaultValue .int), (0, 401, fun _ => defaultValue .int), (0, 8, fun _ => defaultValue .int), (0, 12, fun _ => defaultValue .int), (0, 9, fun _ => defaultValue .int), (0, 480, fun _ => defaultValue .int), (0, 480, fun _ => defaultValue .int)]
def mr_17 (f : Nat → Value) : List (Nat × Nat × (Nat → Value)) := [(0, 7, fun _ => defaultValue .int), (0, 5680, fun _ => defaultValue .int), (0, 11360, fun _ => defaultValue .int), (2, 2, fun _ => defaultValue .boolean), (0, 58, fun _ => defaultValue .int), (3, 127, f), (3, 400, fun _ => defaultValue .byte), (0, 5, fun _ => defaultValue .int), (0, 401, fun _ => defaultValue .int), (0, 401, fun _ => defaultValue .int), (0, 401, fun _ => defaultValue .int), (0, 8, fun _ => defaultValue .int), (0, 12, fun _ => defaultValue .int), (0, 9, fun _ => defaultValue .int), (0, 480, fun _ => defaultValue .int), (0, 480, fun _ => defaultValue .int), (0, 1296, fun _ => defaultValue .int)]
def mr_18 (f : Nat → Value) : List (Nat × Nat × (Nat → Value)) := [(0, 7, fun _ => defaultValue .int), (0, 5680, fun _ => defaultValue .int), (0, 11360, fun _ => defaultValue .int), (2, 2, fun _ => defaultValue .boolean), (0, 58, fun _ => defaultValue .int), (3, 127, f), (3, 400, fun _ => defaultValue .byte), (0, 5, fun _ => defaultValue .int), (0, 401, fun _ => defaultValue .int), (0, 401, fun _ => defaultValue .int), (0, 401, fun _ => defaultValue .int), (0, 8, fun _ => defaultValue .int), (0, 12, fun _ => defaultValue .int), (0, 9, fun _ => defaultValue .int), (0, 480, fun _ => defaultValue .int), (0, 480, fun _ => defaultValue .int), (0, 1296, fun _ => defaultValue .int), (0, 9, fun _ => defaultValue .int)]
def mr_19 (f : Nat → Value) : List (Nat × Nat × (Nat → Value)) := [(0, 7, fun _ => defaultValue .int), (0, 5680, fun _ => defaultValue .int), (0, 11360, fun _ => defaultValue .int), (2, 2, fun _ => defaultValue .boolean), (0, 58, fun _ => defaultValue .int), (3, 127, f), (3, 400, fun _ => defaultValue .byte), (0, 5, fun _ => defaultValue .int), (0, 401, fun _ => defaultValue .int), (0, 401, fun _ => defaultValue .int), (0, 401, fun _ => defaultValue .int), (0, 8, fun _ => defaultValue .int), (0, 12, fun _ => defaultValue .int), (0, 9, fun _ => defaultValue .int), (0, 480, fun _ => defaultValue .int), (0, 480, fun _ => defaultValue .int), (0, 1296, fun _ => defaultValue .int), (0, 9, fun _ => defaultValue .int), (0, 9, fun _ => defaultValue .int)]
def mr_20 (f : Nat → Value) : List (Nat × Nat × (Nat → Value)) := [(0, 7, fun _ => defaultValue .int), (0, 5680, fun _ => defaultValue .int), (0, 11360, fun _ => defaultValue .int), (2, 2, fun _ => defaultValue .boolean), (0, 58, fun _ => defaultValue .int), (3, 127, f), (3, 400, fun _ => defaultValue .byte), (0, 5, fun _ => defaultValue .int), (0, 401, fun _ => defaultValue .int), (0, 401, fun _ => defaultValue .int), (0, 401, fun _ => defaultValue .int), (0, 8, fun _ => defaultValue .int), (0, 12, fun _ => defaultValue .int), (0, 9, fun _ => defaultValue .int), (0, 480, fun _ => defaultValue .int), (0, 480, fun _ => defaultValue .int), (0, 1296, fun _ => defaultValue .int), (0, 9, fun _ => defaultValue .int), (0, 9, fun _ => defaultValue .int), (0, 9, fun _ => defaultValue .int)]
def mr_21 (f : Nat → Value) : List (Nat × Nat × (Nat → Value)) := [(0, 7, fun _ => defaultValue .int), (0, 5680, fun _ => defaultValue .int), (0, 11360, fun _ => defaultValue .int), (2, 2, fun _ => defaultValue .boolean), (0, 58, fun _ => defaultValue .int), (3, 127, f), (3, 400, fun _ => defaultValue .byte), (0, 5, fun _ => defaultValue .int), (0, 401, fun _ => defaultValue .int), (0, 401, fun _ => defaultValue .int), (0, 401, fun _ => defaultValue .int), (0, 8, fun _ => defaultValue .int), (0, 12, fun _ => defaultValue .int), (0, 9, fun _ => defaultValue .int), (0, 480, fun _ => defaultValue .int), (0, 480, fun _ => defaultValue .int), (0, 1296, fun _ => defaultValue .int), (0, 9, fun _ => defaultValue .int), (0, 9, fun _ => defaultValue .int), (0, 9, fun _ => defaultValue .int), (0, 1296, fun _ => defaultValue .int)]
def mr_22 (f : Nat → Value) : List (Nat × Nat × (Nat → Value)) := [(0, 7, fun _ => defaultValue .int), (0, 5680, fun _ => defaultValue .int), (0, 11360, fun _ => defaultValue .int), (2, 2, fun _ => defaultValue .boolean), (0, 58, fun _ => defaultValue .int), (3, 127, f), (3, 400, fun _ => defaultValue .byte), (0, 5, fun _ => defaultValue .int), (0, 401, fun _ => defaultValue .int), (0, 401, fun _ => defaultValue .int), (0, 401, fun _ => defaultValue .int), (0, 8, fun _ => defaultValue .int), (0, 12, fun _ => defaultValue .int), (0, 9, fun _ => defaultValue .int), (0, 480, fun _ => defaultValue .int), (0, 480, fun _ => defaultValue .int), (0, 1296, fun _ => defaultValue .int), (0, 9, fun _ => defaultValue .int), (0, 9, fun _ => defaultValue .int), (0, 9, fun _ => defaultValue .int), (0, 1296, fun _ => defaultValue .int), (1, 21, fun _ => defaultValue .long)]
def mr_23 (f : Nat → Value) : List (Nat × Nat × (Nat → Value)) := [(0, 7, fun _ => defaultValue .int), (0, 5680, fun _ => defaultValue .int), (0, 11360, fun _ => defaultValue .int), (2, 2, fun _ => defaultValue .boolean), (0, 58, fun _ => defaultValue .int), (3, 127, f), (3, 400, fun _ => defaultValue .byte), (0, 5, fun _ => defaultValue .int), (0, 401, fun _ => defaultValue .int), (0, 401, fun _ => defaultValue .int), (0, 401, fun _ => defaultValue .int), (0, 8, fun _ => defaultValue .int), (0, 12, fun _ => defaultValue .int), (0, 9, fun _ => defaultValue .int), (0, 480, fun _ => defaultValue .int), (0, 480, fun _ => defaultValue .int), (0, 1296, fun _ => defaultValue .int), (0, 9, fun _ => defaultValue .int), (0, 9, fun _ => defaultValue .int), (0, 9, fun _ => defaultValue .int), (0, 1296, fun _ => defaultValue .int), (1, 21, fun _ => defaultValue .long), (1, 3, fun _ => defaultValue .long)]
def mr_24 (f : Nat → Value) : List (Nat × Nat × (Nat → Value)) := [(0, 7, fun _ => defaultValue .int), (0, 5680, fun _ => defaultValue .int), (0, 11360, fun _ => defaultValue .int), (2, 2, fun _ => defaultValue .boolean), (0, 58, fun _ => defaultValue .int), (3, 127, f), (3, 400, fun _ => defaultValue .byte), (0, 5, fun _ => defaultValue .int), (0, 401, fun _ => defaultValue .int), (0, 401, fun _ => defaultValue .int), (0, 401, fun _ => defaultValue .int), (0, 8, fun _ => defaultValue .int), (0, 12, fun _ => defaultValue .int), (0, 9, fun _ => defaultValue .int), (0, 480, fun _ => defaultValue .int), (0, 480, fun _ => defaultValue .int), (0, 1296, fun _ => defaultValue .int), (0, 9, fun _ => defaultValue .int), (0, 9, fun _ => defaultValue .int), (0, 9, fun _ => defaultValue .int), (0, 1296, fun _ => defaultValue .int), (1, 21, fun _ => defaultValue .long), (1, 3, fun _ => defaultValue .long), (0, 29, fun _ => defaultValue .int)]
def mk_1 : Nat → Value := (updV (fun _ => defaultValue .int) 65 (.int 1))
def mq_1 (f : Nat → Value) : List (Nat × Nat × (Nat → Value)) := [(0, 7, fun _ => defaultValue .int), (0, 5680, mk_1), (0, 11360, fun _ => defaultValue .int), (2, 2, fun _ => defaultValue .boolean), (0, 58, fun _ => defaultValue .int), (3, 127, f), (3, 400, fun _ => defaultValue .byte), (0, 5, fun _ => defaultValue .int), (0, 401, fun _ => defaultValue .int), (0, 401, fun _ => defaultValue .int), (0, 401, fun _ => defaultValue .int), (0, 8, fun _ => defaultValue .int), (0, 12, fun _ => defaultValue .int), (0, 9, fun _ => defaultValue .int), (0, 480, fun _ => defaultValue .int), (0, 480, fun _ => defaultValue .int), (0, 1296, fun _ => defaultValue .int), (0, 9, fun _ => defaultValue .int), (0, 9, fun _ => defaultValue .int), (0, 9, fun _ => defaultValue .int), (0, 1296, fun _ => defaultValue .int), (1, 21, fun _ => defaultValue .long), (1, 3, fun _ => defaultValue .long), (0, 29, fun _ => defaultValue .int)]
def mk_2 : Nat → Value := (updV (updV (fun _ => defaultValue .int) 65 (.int 1)) 67 (.int 8))
def mq_2 (f : Nat → Value) : List (Nat × Nat × (Nat → Value)) := [(0, 7, fun _ => defaultValue .int), (0, 5680, mk_2), (0, 11360, fun _ => defaultValue .int), (2, 2, fun _ => defaultValue .boolean), (0, 58, fun _ => defaultValue .int), (3, 127, f), (3, 400, fun _ => defaultValue .byte), (0, 5, fun _ => defaultValue .int), (0, 401, fun _ => defaultValue .int), (0, 401, fun _ => defaultValue .int), (0, 401, fun _ => defaultValue .int), (0, 8, fun _ => defaultValue .int), (0, 12, fun _ => defaultValue .int), (0, 9, fun _ => defaultValue .int), (0, 480, fun _ => defaultValue .int), (0, 480, fun _ => defaultValue .int), (0, 1296, fun _ => defaultValue .int), (0, 9, fun _ => defaultValue .int), (0, 9, fun _ => defaultValue .int), (0, 9, fun _ => defaultValue .int), (0, 1296, fun _ => defaultValue .int), (1, 21, fun _ => defaultValue .long), (1, 3, fun _ => defaultValue .long), (0, 29, fun _ => defaultValue .int)]
def mk_3 : Nat → Value := (updV (updV (updV (fun _ => defaultValue .int) 65 (.int 1)) 67 (.int 8)) 68 (.int 8))
def mq_3 (f : Nat → Value) : List (Nat × Nat × (Nat → Value)) := [(0, 7, fun _ => defaultValue .int), (0, 5680, mk_3), (0, 11360, fun _ => defaultValue .int), (2, 2, fun _ => defaultValue .boolean), (0, 58, fun _ => defaultValue .int), (3, 127, f), (3, 400, fun _ => defaultValue .byte), (0, 5, fun _ => defaultValue .int), (0, 401, fun _ => defaultValue .int), (0, 401, fun _ => defaultValue .int), (0, 401, fun _ => defaultValue .int), (0, 8, fun _ => defaultValue .int), (0, 12, fun _ => defaultValue .int), (0, 9, fun _ => defaultValue .int), (0, 480, fun _ => defaultValue .int), (0, 480, fun _ => defaultValue .int), (0, 1296, fun _ => defaultValue .int), (0, 9, fun _ => defaultValue .int), (0, 9, fun _ => defaultValue .int), (0, 9, fun _ => defaultValue .int), (0, 1296, fun _ => defaultValue .int), (1, 21, fun _ => defaultValue .long), (1, 3, fun _ => defaultValue .long), (0, 29, fun _ => defaultValue .int)]
def mk_4 : Nat → Value := (updV (updV (updV (updV (fun _ => defaultValue .int) 65 (.int 1)) 67 (.int 8)) 68 (.int 8)) 72 (.int (-1)))
def mq_4 (f : Nat → Value) : List (Nat × Nat × (Nat → Value)) := [(0, 7, fun _ => defaultValue .int), (0, 5680, mk_4), (0, 11360, fun _ => defaultValue .int), (2, 2, fun _ => defaultValue .boolean), (0, 58, fun _ => defaultValue .int), (3, 127, f), (3, 400, fun _ => defaultValue .byte), (0, 5, fun _ => defaultValue .int), (0, 401, fun _ => defaultValue .int), (0, 401, fun _ => defaultValue .int), (0, 401, fun _ => defaultValue .int), (0, 8, fun _ => defaultValue .int), (0, 12, fun _ => defaultValue .int), (0, 9, fun _ => defaultValue .int), (0, 480, fun _ => defaultValue .int), (0, 480, fun _ => defaultValue .int), (0, 1296, fun _ => defaultValue .int), (0, 9, fun _ => defaultValue .int), (0, 9, fun _ => defaultValue .int), (0, 9, fun _ => defaultValue .int), (0, 1296, fun _ => defaultValue .int), (1, 21, fun _ => defaultValue .long), (1, 3, fun _ => defaultValue .long), (0, 29, fun _ => defaultValue .int)]
theorem mk_0s {Γ : th_Ga} {a : Nat} (i : Nat) : th_sat Γ a (th_esk i) (.int 0) := by
  unfold th_esk; (repeat' split) <;> exact th_sI (x := 0) (by decide) (by decide)
theorem mk_4s {Γ : th_Ga} {a : Nat} (i : Nat) : th_sat Γ a (th_esk i) (mk_4 i) := by
  unfold mk_4 updV
  by_cases h1 : i = 72
  · subst h1; exact th_sI (x := -1) (by decide) (by decide)
  rw [if_neg h1]
  by_cases h2 : i = 68
  · subst h2; exact th_sI (x := 8) (by decide) (by decide)
  rw [if_neg h2]
  by_cases h3 : i = 67
  · subst h3; exact th_sI (x := 8) (by decide) (by decide)
  rw [if_neg h3]
  by_cases h4 : i = 65
  · subst h4; exact th_sI (x := 1) (by decide) (by decide)
  rw [if_neg h4]
  exact mk_0s i
theorem mq_rok {f : Nat → Value} (hw : ∀ i, i < 127 → ∃ x : Int32, f i = .int x ∧ x.toInt = th_wl.getD i 0) {i : Nat} {x : Nat × Nat × (Nat → Value)} (hx : (mq_4 f)[i]? = some x) : mo_rok i x := by
  match i, hx with
  | 0, hx => have e9 := Option.some.inj hx; subst e9; exact ⟨_, _, _, ro_47, Nat.le_refl _, Nat.le_refl _, fun Γ a j hj => th_sI (x := 0) (by decide) (by decide)⟩
  | 1, hx => have e9 := Option.some.inj hx; subst e9; exact ⟨_, _, _, ro_48, Nat.le_refl _, Nat.le_refl _, fun Γ a j hj => mk_4s j⟩
  | 2, hx => have e9 := Option.some.inj hx; subst e9; exact ⟨_, _, _, ro_49, Nat.le_refl _, Nat.le_refl _, fun Γ a j hj => mk_0s (j % 5680)⟩
  | 3, hx => have e9 := Option.some.inj hx; subst e9; exact ⟨_, _, _, ro_50, Nat.le_refl _, Nat.le_refl _, fun Γ a j hj => th_sI (x := 0) (by decide) (by decide)⟩
  | 4, hx => have e9 := Option.some.inj hx; subst e9; exact ⟨_, _, _, ro_51, Nat.le_refl _, Nat.le_refl _, fun Γ a j hj => th_sI (x := 0) (by decide) (by decide)⟩
  | 5, hx => have e9 := Option.some.inj hx; subst e9; exact ⟨_, _, _, ro_52, Nat.le_refl _, Nat.le_refl _, fun Γ a j hj => (by
    obtain ⟨x, e1, e2⟩ := hw j hj
    show th_sat Γ a (th_esw j) (f j)
    rw [e1]
    unfold th_esw
    exact th_sI (by rw [e2]; exact Int.le_refl _) (by rw [e2]; exact Int.le_refl _))⟩
  | 6, hx => have e9 := Option.some.inj hx; subst e9; exact ⟨_, _, _, ro_53, Nat.le_refl _, Nat.le_refl _, fun Γ a j hj => th_sI (x := 0) (by decide) (by decide)⟩
  | 7, hx => have e9 := Option.some.inj hx; subst e9; exact ⟨_, _, _, ro_54, Nat.le_refl _, Nat.le_refl _, fun Γ a j hj => th_sI (x := 0) (by decide) (by decide)⟩
  | 8, hx => have e9 := Option.some.inj hx; subst e9; exact ⟨_, _, _, ro_55, Nat.le_refl _, Nat.le_refl _, fun Γ a j hj => th_sI (x := 0) (by decide) (by decide)⟩
  | 9, hx => have e9 := Option.some.inj hx; subst e9; exact ⟨_, _, _, ro_56, Nat.le_refl _, Nat.le_refl _, fun Γ a j hj => th_sI (x := 0) (by decide) (by decide)⟩
  | 10, hx => have e9 := Option.some.inj hx; subst e9; exact ⟨_, _, _, ro_57, Nat.le_refl _, Nat.le_refl _, fun Γ a j hj => th_sI (x := 0) (by decide) (by decide)⟩
  | 11, hx => have e9 := Option.some.inj hx; subst e9; exact ⟨_, _, _, ro_58, Nat.le_refl _, Nat.le_refl _, fun Γ a j hj => th_sI (x := 0) (by decide) (by decide)⟩
  | 12, hx => have e9 := Option.some.inj hx; subst e9; exact ⟨_, _, _, ro_59, Nat.le_refl _, Nat.le_refl _, fun Γ a j hj => th_sI (x := 0) (by decide) (by decide)⟩
  | 13, hx => have e9 := Option.some.inj hx; subst e9; exact ⟨_, _, _, ro_60, Nat.le_refl _, Nat.le_refl _, fun Γ a j hj => th_sI (x := 0) (by decide) (by decide)⟩
  | 14, hx => have e9 := Option.some.inj hx; subst e9; exact ⟨_, _, _, ro_61, Nat.le_refl _, Nat.le_refl _, fun Γ a j hj => th_sI (x := 0) (by decide) (by decide)⟩
  | 15, hx => have e9 := Option.some.inj hx; subst e9; exact ⟨_, _, _, ro_62, Nat.le_refl _, Nat.le_refl _, fun Γ a j hj => th_sI (x := 0) (by decide) (by decide)⟩
  | 16, hx => have e9 := Option.some.inj hx; subst e9; exact ⟨_, _, _, ro_63, Nat.le_refl _, Nat.le_refl _, fun Γ a j hj => th_sI (x := 0) (by decide) (by decide)⟩
  | 17, hx => have e9 := Option.some.inj hx; subst e9; exact ⟨_, _, _, ro_64, Nat.le_refl _, Nat.le_refl _, fun Γ a j hj => th_sI (x := 0) (by decide) (by decide)⟩
  | 18, hx => have e9 := Option.some.inj hx; subst e9; exact ⟨_, _, _, ro_65, Nat.le_refl _, Nat.le_refl _, fun Γ a j hj => th_sI (x := 0) (by decide) (by decide)⟩
  | 19, hx => have e9 := Option.some.inj hx; subst e9; exact ⟨_, _, _, ro_66, Nat.le_refl _, Nat.le_refl _, fun Γ a j hj => th_sI (x := 0) (by decide) (by decide)⟩
  | 20, hx => have e9 := Option.some.inj hx; subst e9; exact ⟨_, _, _, ro_67, Nat.le_refl _, Nat.le_refl _, fun Γ a j hj => th_sI (x := 0) (by decide) (by decide)⟩
  | 21, hx => have e9 := Option.some.inj hx; subst e9; exact ⟨_, _, _, ro_68, Nat.le_refl _, Nat.le_refl _, fun Γ a j hj => th_sLa (x := 0)⟩
  | 22, hx => have e9 := Option.some.inj hx; subst e9; exact ⟨_, _, _, ro_69, Nat.le_refl _, Nat.le_refl _, fun Γ a j hj => th_sLa (x := 0)⟩
  | 23, hx => have e9 := Option.some.inj hx; subst e9; exact ⟨_, _, _, ro_70, Nat.le_refl _, Nat.le_refl _, fun Γ a j hj => th_sI (x := 0) (by decide) (by decide)⟩
  | n + 24, hx => exact absurd (show n + 24 < 24 from (List.getElem?_eq_some_iff.mp hx).1) (by omega)
end
