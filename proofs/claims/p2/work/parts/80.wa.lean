section TIN
variable {G : th_G} {Γ Γ1 : th_Ga} {H H0 H1 : Heap} {a0 : Nat}
/-- what a new object's fields hold: class, fields -/
def th_iv (r : Nat) : Nat × List (Nat × Int32) := match r with
  | 1 => (0, [])
  | 3 => (1, [(7, 0), (8, 8), (9, 8), (10, 0)])
  | 11 => (2, [])
  | 17 => (4, [(3, 0), (4, 0)])
  | 20 => (5, [])
  | 23 => (6, [])
  | 27 => (7, [])
  | 32 => (8, [(5, 0), (6, (-1)), (7, 0)])
  | 37 => (9, [(1, 0)])
  | 39 => (10, [(2, 0), (3, 0)])
  | 42 => (11, [(14, 0), (15, (-1)), (16, 0), (17, (-1))])
  | _ => (0, [])
/-- what a new row holds: how long, what -/
def th_ir (r : Nat) : Option (Nat × (Nat → Int32)) := match r with
  | 4 => some (9, fun _ => 0)
  | 5 => some (9, fun _ => 0)
  | 6 => some (9, fun _ => 0)
  | 7 => some (9, fun _ => 0)
  | 8 => some (9, fun _ => 0)
  | 9 => some (3, fun i => if i = 1 then 1 else 0)
  | 10 => some (12, fun _ => 0)
  | 18 => some (480, fun _ => 0)
  | 19 => some (480, fun _ => 0)
  | 21 => some (401, fun _ => 0)
  | 22 => some (401, fun _ => 0)
  | 25 => some (23, fun _ => 0)
  | 26 => some (3, fun _ => 0)
  | 28 => some (1296, fun _ => 0)
  | 29 => some (1296, fun _ => 0)
  | 30 => some (1296, fun _ => 0)
  | 31 => some (9, fun _ => 0)
  | 34 => some (6, fun _ => 0)
  | 35 => some (6, fun _ => 0)
  | 36 => some (6, fun _ => 0)
  | 38 => some (400, fun _ => 0)
  | 40 => some (400, fun _ => 0)
  | 41 => some (96, fun _ => 0)
  | 44 => some (2, fun _ => 0)
  | 45 => some (5, fun _ => 0)
  | _ => none
def th_ip (r : Nat) : List (Nat × Nat) := match r with
  | 1 => [(0, 1)]
  | 3 => [(0, 1), (1, 2), (2, 3), (3, 4), (4, 5), (5, 6), (6, 7)]
  | 11 => [(0, 1)]
  | 17 => [(0, 1), (1, 2), (2, 3)]
  | 20 => [(0, 1), (1, 2)]
  | 23 => [(0, 1), (1, 2), (2, 3)]
  | 27 => [(0, 1), (1, 6), (2, 7), (3, 8), (4, 9)]
  | 32 => [(0, 1), (1, 9), (2, 10), (3, 11), (4, 12)]
  | 37 => [(0, 1)]
  | 39 => [(0, 1), (1, 2)]
  | 42 => [(0, 1), (1, 32), (2, 33), (3, 34), (4, 42), (5, 50), (6, 52), (7, 55), (8, 58), (9, 62), (10, 67), (11, 78), (12, 88), (13, 90)]
  | _ => []
def th_iq (r : Nat) : List (Nat × Nat) := match r with
  | 33 => [(0, 4), (1, 7), (2, 10), (3, 13), (4, 16), (5, 19)]
  | 43 => [(0, 59), (1, 90)]
  | _ => []
def th_ini (G : th_G) (H : Heap) (r q : Nat) : Prop := (∀ (j : Nat) (x : Int32), (j, x) ∈ (th_iv r).2 → th_sl H q (G.1.2 (th_iv r).1 j) = .int x) ∧ (∀ (n : Nat) (f : Nat → Int32), th_ir r = some (n, f) → ∀ i, i < n → th_sl H q i = .int (f i)) ∧ (∀ j d : Nat, (j, d) ∈ th_ip r → th_sl H q (G.1.2 (th_iv r).1 j) = .ref (q + d)) ∧ ∀ i d : Nat, (i, d) ∈ th_iq r → th_sl H q i = .ref (q + d)
def th_IN (G : th_G) (Γ : th_Ga) (a0 : Nat) (H0 H : Heap) : Prop := ∀ q r o : Nat, Γ q = (r, o) → (q = a0 ∨ H0.size ≤ q) → (th_ro r).isSome = true → th_ini G H r q
theorem th_ini_k {r q : Nat} (e : H1[q]? = H[q]?) (h : th_ini G H r q) : th_ini G H1 r q := ⟨fun j x hm => (th_sl_kept e _).trans (h.1 j x hm), fun n f hf i hi => (th_sl_kept e _).trans (h.2.1 n f hf i hi), fun j d hm => (th_sl_kept e _).trans (h.2.2.1 j d hm), fun j d hm => (th_sl_kept e _).trans (h.2.2.2 j d hm)⟩
theorem th_IN_0 (hI : th_I G Γ H0) (hu : th_ro (Γ a0).1 = none) : th_IN G Γ a0 H0 H0 := fun q r o hg hq hs => by
  have q9 : th_ro (Γ q).1 = none := by
    rcases hq with rfl | hq
    · exact hu
    · exact tc_un hI hq
  rw [hg] at q9
  rw [q9] at hs
  cases hs
theorem th_IN_s {b : Nat} (h : th_IN G Γ a0 H0 H) (hb : th_ro (Γ b).1 = none) (oq : ∀ q, q ≠ b → H1[q]? = H[q]?) : th_IN G Γ a0 H0 H1 := fun q r o hg hq hs => th_ini_k (oq q (fun e => by rw [← e, hg] at hb; rw [hb] at hs; cases hs)) (h q r o hg hq hs)
theorem th_IN_c {b r : Nat} {Ls : List Nat} (h : th_IN G Γ a0 H0 H) (hy : th_NY G Γ Γ1 b r Ls H H1) (hi : th_IN G Γ1 b H H1) : th_IN G Γ1 a0 H0 H1 := fun q x o hg hq hs => by
  by_cases w : q = b ∨ H.size ≤ q
  · exact hi q x o hg w hs
  · obtain ⟨e1, e2⟩ := hy.1.2.2 q (by omega) (by omega)
    rw [e1] at hg
    exact th_ini_k e2 (h q x o hg hq hs)
theorem th_IN_up {b : Nat} {x : Nat × Nat} (h : th_IN G Γ a0 H0 H) (hx : th_ini G H x.1 b) : th_IN G (th_up Γ b x) a0 H0 H := fun q r o hg hq hs => by
  by_cases e : q = b
  · rw [e, th_up_s] at hg
    rw [e]
    rw [hg] at hx
    exact hx
  · rw [th_up_n e] at hg
    exact h q r o hg hq hs
theorem ini_o {r q : Nat} (h1 : (th_iv r).2 = []) (h2 : th_ir r = none) (h3 : th_ip r = []) (h4 : th_iq r = []) : th_ini G H r q := ⟨fun j x hm => (by rw [h1] at hm; cases hm), fun n f hf => (by rw [h2] at hf; cases hf), fun j d hm => (by rw [h3] at hm; cases hm), fun j d hm => (by rw [h4] at hm; cases hm)⟩
theorem ini_q {r q : Nat} (h1 : (th_iv r).2 = []) (h2 : th_ir r = none) (h3 : th_ip r = []) (h : ∀ i d : Nat, (i, d) ∈ th_iq r → th_sl H q i = .ref (q + d)) : th_ini G H r q := ⟨fun j x hm => (by rw [h1] at hm; cases hm), fun n f hf => (by rw [h2] at hf; cases hf), fun j d hm => (by rw [h3] at hm; cases hm), h⟩
theorem ini_r {r q n : Nat} {f : Nat → Int32} (h1 : (th_iv r).2 = []) (h2 : th_ir r = some (n, f)) (h3 : th_ip r = []) (h4 : th_iq r = []) (h : ∀ i, i < n → th_sl H q i = .int (f i)) : th_ini G H r q := ⟨fun j x hm => (by rw [h1] at hm; cases hm), fun n' f' hf => (by cases h2.symm.trans hf; exact h), fun j d hm => (by rw [h3] at hm; cases hm), fun j d hm => (by rw [h4] at hm; cases hm)⟩
theorem ini_f {r q k N : Nat} {V : Nat → Value} (ho : th_OB G Γ H q k N V) (h1 : (th_iv r).1 = k) (h2 : th_ir r = none) (h4 : th_iq r = []) (h : ∀ (j : Nat) (x : Int32), (j, x) ∈ (th_iv r).2 → j < N ∧ V j = .int x) (h3 : ∀ j d : Nat, (j, d) ∈ th_ip r → j < N ∧ V j = .ref (q + d)) : th_ini G H r q := by
  obtain ⟨-, cell, q1, q2, q3, q4⟩ := ho
  refine ⟨fun j x hm => ?_, fun n f hf => (by rw [h2] at hf; cases hf), fun j d hm => ?_, fun j d hm => (by rw [h4] at hm; cases hm)⟩
  · obtain ⟨e1, e2⟩ := h j x hm
    rw [h1, ← e2]
    exact th_sl_at q1 (q4 j e1)
  · obtain ⟨e1, e2⟩ := h3 j d hm
    rw [h1, ← e2]
    exact th_sl_at q1 (q4 j e1)
theorem sz_oq {b : Nat} (hb : b < H.size) (oq : ∀ q, q ≠ b → H1[q]? = H[q]?) (hz : H.size ≤ H1.size) : H1.size = H.size := by
  have h := oq H.size (by omega)
  rw [Array.getElem?_eq_none (Nat.le_refl _)] at h
  have h2 := Array.getElem?_eq_none_iff.mp h
  omega

end TIN
set_option maxHeartbeats 4000000 in
set_option maxRecDepth 100000 in
theorem c_X0_init_i (l : Launch) (G : th_G) (Γ : th_Ga) (H0 : Heap) (hI : th_I G Γ H0) (hR : th_RC G Γ H0) (a0 : Nat) (ho : th_OB G Γ H0 a0 0 1 (fun j => defaultValue (tyX0 j))) (hsz : G.2.2 ≤ a0) (hlt : a0 < H0.size) (hm : ¬ th_MR G Γ H0 a0) (hz1 : H0.size = a0 + 1) : Met l yX0_init (.code yX0_init cX0_init 1 (none) :: th_tb) ({ frames := 1, cells := 1, slots := 200, locals := 12 } : Room) (th_P [.ref a0] G H0) (th_Q (fun (v : Option Value) (H1 : Heap) => v = none ∧ ∃ Γ1 : th_Ga, th_NY G Γ Γ1 a0 1 [1, 2] H0 H1 ∧ th_IN G Γ1 a0 H0 H1 ∧ H1.size = H0.size + 1) G) 1 200 (fun q => G.2.2 ≤ q) := by
  refine th_met RX0 (by decide) rfl (Nat.le_of_ble_eq_true rfl) ?_
  intro p e s m below meth c hC hH hr hlocks hnm ls hl
  have hx := hC.1
  have hb := hC.2.1
  have hB : th_NR G Γ Γ a0 H0 H0 [] := ⟨⟨hI, va_S.rf, fun _ _ _ => rfl, fun _ _ _ => rfl, ho.1, hsz, hlt⟩, hR, hm, fun q w => Or.inl w⟩
  have hl : lv_has ls 1 [(0, .ref a0)] := hl
  have hs : H0.size ≤ H0.size := Nat.le_refl _
  have hN := th_new_0 (a0 := a0) hI ho.1
  have hIN := th_IN_0 (a0 := a0) hI ho.1
  refine lv_aload_n hx hb dX0_init_0 rfl (lv_at hl 0 rfl) ?_
  refine W.objInit hx hb hC.2.2.2.1 (hC.2.2.2.2.1 _ kw_372) (hC.2.2.2.2.1 _ kw_28) (hC.2.2.2.2.1 _ kw_29) rfl (hl.1.trans hC.2.2.1.symm) rfl dX0_init_1 (Nat.le_of_ble_eq_true rfl) (Nat.le_of_ble_eq_true rfl) ?_
  refine W.eq (g2 := F0 m 4 ls []) rfl ?_
  refine lv_aload_n hx hb dX0_init_4 rfl (lv_at hl 0 rfl) ?_
  refine lv_sipush (v := 200) hx hb dX0_init_5 (by decide) ?_
  refine tc_newa (ty := .long) (t := 1) hC hB.1 rfl rfl rfl kw_246 (N := 200) tk_200 (by decide) (Nat.le_of_ble_eq_true rfl) (Nat.le_of_ble_eq_true rfl) dX0_init_8 (fun b8 H8 eb8 zb8 oq8 hB1 k8 => ?_)
  have u8 := k8.2.1
  have n80 : ¬ th_MR G Γ H0 b8 := fun w => absurd (th_MR_lt hB.2.1 w) (by omega)
  have hB := th_NR_s hB hB1 u8 n80 (by omega) oq8
  have hIN := th_IN_s hIN u8 oq8
  have n8 : ¬ th_MR G Γ H8 b8 := fun w => n80 (th_MR_s u8 oq8 w)
  have lb8 : H0.size ≤ b8 := by omega
  have ho := tc_OBo ho oq8 (by omega)
  have hs : H8.size = H0.size + 1 := by omega
  have lt_b8 : b8 < H8.size := by omega
  have of_b8 : b8 = a0 + 1 := by omega
  refine tc_putF hC cf_X0 hB.1 ho (j := 0) (by decide) rfl hnm rfl rfl kf_X0_9 dX0_init_10 (fun H10 locs hB1 ho z10 oq10 => ?_)
  have hu := hB.1.2.2.2.2.1
  have hB := th_NR_s hB hB1 hu hB.2.2.1 (by omega) oq10
  have hIN := th_IN_s hIN hu oq10
  have k8x := tm_MAo k8 oq10 (by have q9 := lb8; omega)
  have n8x : ¬ th_MR G Γ H10 b8 := fun w => n8 (th_MR_s hu oq10 w)
  have hs : H10.size = H0.size + 1 := by omega
  have lt_b8 : b8 < H10.size := by omega
  have hI1 := hB.1.1
  have hR1 := hB.2.1
  have hI2 := th_nmA (r := 2) (o := a0) hI1 k8x ro_2 (Nat.le_refl _) (Nat.le_refl _) (fun i _ => th_sLa (x := 0))
  have hR1 := th_RC_up hI1 hR1 (x := (2, a0)) k8x.2.1 n8x hI2 (fun e => absurd (show (2 : Nat) = 3 from e) (by decide)) (fun e => absurd (show (2 : Nat) = 18 ∨ (2 : Nat) = 19 from e) (by decide)) (show (2 : Nat) ≠ 12 by decide)
  have hI1 := hI2
  have hIN := th_IN_up (b := b8) (x := (2, a0)) hIN (ini_o rfl rfl rfl rfl)
  have ho := th_OB_up (b := b8) (x := (2, a0)) ho (by have q9 := lb8; omega)
  have g_b8 : (th_up Γ b8 (2, a0)) b8 = (2, a0) := th_up_s
  have nm0 : ¬ th_MR G (th_up Γ b8 (2, a0)) H10 a0 := fun w => hB.2.2.1 (th_MR_up (show (2 : Nat) ≠ 12 by decide) w)
  have hI2 := th_nmO (r := 1) hI1 ho hsz ro_1 rfl (fun j q hq => by
    match j, hq with
    | 0, hq => have e9 := Option.some.inj hq; subst e9; exact th_sO g_b8
    | n + 1, hq => exact absurd (List.getElem?_eq_some_iff.mp hq).1 (by simp))
  have hR2 := th_RC_up hI1 hR1 (x := (1, 0)) ho.1 nm0 hI2 (fun e => absurd e (by decide)) (fun e => absurd e (by decide)) (by decide)
  have hIN2 := th_IN_up (b := a0) (x := (1, 0)) hIN (ini_f (r := 1) ho rfl rfl rfl (fun j x hm => by
    cases hm) (fun j d hm => by
    rcases List.mem_cons.mp hm with e | hm
    · cases e; exact ⟨by decide, by rw [← of_b8]; rfl⟩
    cases hm))
  have gq : ∀ q, q < H0.size → q ≠ a0 → (th_up (th_up Γ b8 (2, a0)) a0 (1, 0)) q = Γ q := fun q h1 h2 => ((th_up_n h2).trans (th_up_n (by have q9 := lb8; omega)))
  refine th_vret hC hH hr hlocks hB.1.2.1 ⟨rfl, (th_up (th_up Γ b8 (2, a0)) a0 (1, 0)), ⟨⟨hI2, (by omega), fun q h1 h2 => ⟨(gq q h1 h2).trans (hB.1.2.2.2.1 q h1 h2), hB.1.2.2.1 q h1 h2⟩⟩, hR2, th_up_s, fun q w => hB.2.2.2 q (th_MR_up (show (2 : Nat) ≠ 12 by decide) (th_MR_up (show (1 : Nat) ≠ 12 by decide) w)), fun q x o hg hq hs => ?_⟩, hIN2, hs⟩ dX0_init_13
  by_cases e_a0 : q = a0
  · rw [e_a0, th_up_s] at hg; cases hg; decide
  rw [th_up_n e_a0] at hg
  by_cases e_b8 : q = b8
  · rw [e_b8, th_up_s] at hg; cases hg; decide
  rw [th_up_n e_b8] at hg
  exact (show ∀ x ∈ ([] : List Nat), x ∈ [1, 2] by decide) x (hN q x o hg hq hs)

set_option maxHeartbeats 4000000 in
set_option maxRecDepth 100000 in
theorem c_X5_init_i (l : Launch) (G : th_G) (Γ : th_Ga) (H0 : Heap) (hI : th_I G Γ H0) (hR : th_RC G Γ H0) (a0 : Nat) (ho : th_OB G Γ H0 a0 5 9 (fun j => defaultValue (tyX5 j))) (hsz : G.2.2 ≤ a0) (hlt : a0 < H0.size) (hm : ¬ th_MR G Γ H0 a0) (hz1 : H0.size = a0 + 1) : Met l yX5_init (.code yX5_init cX5_init 1 (none) :: th_tb) ({ frames := 1, cells := 2, slots := 802, locals := 12 } : Room) (th_P [.ref a0] G H0) (th_Q (fun (v : Option Value) (H1 : Heap) => v = none ∧ ∃ Γ1 : th_Ga, th_NY G Γ Γ1 a0 20 [20, 21, 22] H0 H1 ∧ th_IN G Γ1 a0 H0 H1 ∧ H1.size = H0.size + 2) G) 2 802 (fun q => G.2.2 ≤ q) := by
  refine th_met RX5 (by decide) rfl (Nat.le_of_ble_eq_true rfl) ?_
  intro p e s m below meth c hC hH hr hlocks hnm ls hl
  have hx := hC.1
  have hb := hC.2.1
  have hB : th_NR G Γ Γ a0 H0 H0 [] := ⟨⟨hI, va_S.rf, fun _ _ _ => rfl, fun _ _ _ => rfl, ho.1, hsz, hlt⟩, hR, hm, fun q w => Or.inl w⟩
  have hl : lv_has ls 1 [(0, .ref a0)] := hl
  have hs : H0.size ≤ H0.size := Nat.le_refl _
  have hN := th_new_0 (a0 := a0) hI ho.1
  have hIN := th_IN_0 (a0 := a0) hI ho.1
  refine lv_aload_n hx hb dX5_init_0 rfl (lv_at hl 0 rfl) ?_
  refine W.objInit hx hb hC.2.2.2.1 (hC.2.2.2.2.1 _ kw_193) (hC.2.2.2.2.1 _ kw_28) (hC.2.2.2.2.1 _ kw_29) rfl (hl.1.trans hC.2.2.1.symm) rfl dX5_init_1 (Nat.le_of_ble_eq_true rfl) (Nat.le_of_ble_eq_true rfl) ?_
  refine W.eq (g2 := F0 m 4 ls []) rfl ?_
  refine lv_aload_n hx hb dX5_init_4 rfl (lv_at hl 0 rfl) ?_
  refine lv_sipush (v := 401) hx hb dX5_init_5 (by decide) ?_
  refine tc_newa (ty := .int) (t := 0) hC hB.1 rfl rfl rfl kw_104 (N := 401) tk_401 (by decide) (Nat.le_of_ble_eq_true rfl) (Nat.le_of_ble_eq_true rfl) dX5_init_8 (fun b8 H8 eb8 zb8 oq8 hB1 k8 => ?_)
  have u8 := k8.2.1
  have n80 : ¬ th_MR G Γ H0 b8 := fun w => absurd (th_MR_lt hB.2.1 w) (by omega)
  have hB := th_NR_s hB hB1 u8 n80 (by omega) oq8
  have hIN := th_IN_s hIN u8 oq8
  have n8 : ¬ th_MR G Γ H8 b8 := fun w => n80 (th_MR_s u8 oq8 w)
  have lb8 : H0.size ≤ b8 := by omega
  have ho := tc_OBo ho oq8 (by omega)
  have hs : H8.size = H0.size + 1 := by omega
  have lt_b8 : b8 < H8.size := by omega
  have of_b8 : b8 = a0 + 1 := by omega
  refine tc_putF hC cf_X5 hB.1 ho (j := 0) (by decide) rfl hnm rfl rfl kf_X5_11 dX5_init_10 (fun H10 locs hB1 ho z10 oq10 => ?_)
  have hu := hB.1.2.2.2.2.1
  have hB := th_NR_s hB hB1 hu hB.2.2.1 (by omega) oq10
  have hIN := th_IN_s hIN hu oq10
  have k8x := tm_MAo k8 oq10 (by have q9 := lb8; omega)
  have n8x : ¬ th_MR G Γ H10 b8 := fun w => n8 (th_MR_s hu oq10 w)
  have hs : H10.size = H0.size + 1 := by omega
  have lt_b8 : b8 < H10.size := by omega
  refine lv_aload_n hx hb dX5_init_13 rfl (lv_at hl 0 rfl) ?_
  refine lv_sipush (v := 401) hx hb dX5_init_14 (by decide) ?_
  refine tc_newa (ty := .int) (t := 0) hC hB.1 rfl rfl rfl kw_104 (N := 401) tk_401 (by decide) (Nat.le_of_ble_eq_true rfl) (Nat.le_of_ble_eq_true rfl) dX5_init_17 (fun b17 H17 eb17 zb17 oq17 hB1 k17 => ?_)
  have u17 := k17.2.1
  have n170 : ¬ th_MR G Γ H10 b17 := fun w => absurd (th_MR_lt hB.2.1 w) (by omega)
  have hB := th_NR_s hB hB1 u17 n170 (by omega) oq17
  have hIN := th_IN_s hIN u17 oq17
  have n17 : ¬ th_MR G Γ H17 b17 := fun w => n170 (th_MR_s u17 oq17 w)
  have lb17 : H0.size ≤ b17 := by omega
  have ho := tc_OBo ho oq17 (by omega)
  have k8xx := tm_MAo k8x oq17 (by have q9 := tm_lt k8x; omega)
  have n8xx : ¬ th_MR G Γ H17 b8 := fun w => n8x (th_MR_s u17 oq17 w)
  have hs : H17.size = H0.size + 2 := by omega
  have dd_b17_b8 : b8 ≠ b17 := by have q9 := lt_b8; omega
  have lt_b17 : b17 < H17.size := by omega
  have lt_b8 : b8 < H17.size := by omega
  have of_b17 : b17 = a0 + 2 := by omega
  refine tc_putF hC cf_X5 hB.1 ho (j := 1) (by decide) rfl hnm rfl rfl kf_X5_15 dX5_init_19 (fun H19 locs hB1 ho z19 oq19 => ?_)
  have hu := hB.1.2.2.2.2.1
  have hB := th_NR_s hB hB1 hu hB.2.2.1 (by omega) oq19
  have hIN := th_IN_s hIN hu oq19
  have k8xxx := tm_MAo k8xx oq19 (by have q9 := lb8; omega)
  have n8xxx : ¬ th_MR G Γ H19 b8 := fun w => n8xx (th_MR_s hu oq19 w)
  have k17x := tm_MAo k17 oq19 (by have q9 := lb17; omega)
  have n17x : ¬ th_MR G Γ H19 b17 := fun w => n17 (th_MR_s hu oq19 w)
  have hs : H19.size = H0.size + 2 := by omega
  have lt_b8 : b8 < H19.size := by omega
  have lt_b17 : b17 < H19.size := by omega
  have hI1 := hB.1.1
  have hR1 := hB.2.1
  have hI2 := th_nmA (r := 21) (o := a0) hI1 k8xxx ro_21 (Nat.le_refl _) (Nat.le_refl _) (fun i _ => th_sI (x := 0) (by decide) (by decide))
  have hR1 := th_RC_up hI1 hR1 (x := (21, a0)) k8xxx.2.1 n8xxx hI2 (fun e => absurd (show (21 : Nat) = 3 from e) (by decide)) (fun e => absurd (show (21 : Nat) = 18 ∨ (21 : Nat) = 19 from e) (by decide)) (show (21 : Nat) ≠ 12 by decide)
  have hI1 := hI2
  have hIN := th_IN_up (b := b8) (x := (21, a0)) hIN (ini_r rfl rfl rfl rfl (fun i hi => th_sl_at k8xxx.2.2 (arrV_read _ _ hi)))
  have ho := th_OB_up (b := b8) (x := (21, a0)) ho (by have q9 := lb8; omega)
  have k17xu := th_MA_up (b := b8) (x := (21, a0)) k17x (fun e => dd_b17_b8 e.symm)
  have n17xu : ¬ th_MR G (th_up Γ b8 (21, a0)) H19 b17 := fun w => n17x (th_MR_up (show (21 : Nat) ≠ 12 by decide) w)
  have hI2 := th_nmA (r := 22) (o := a0) hI1 k17xu ro_22 (Nat.le_refl _) (Nat.le_refl _) (fun i _ => th_sI (x := 0) (by decide) (by decide))
  have hR1 := th_RC_up hI1 hR1 (x := (22, a0)) k17xu.2.1 n17xu hI2 (fun e => absurd (show (22 : Nat) = 3 from e) (by decide)) (fun e => absurd (show (22 : Nat) = 18 ∨ (22 : Nat) = 19 from e) (by decide)) (show (22 : Nat) ≠ 12 by decide)
  have hI1 := hI2
  have hIN := th_IN_up (b := b17) (x := (22, a0)) hIN (ini_r rfl rfl rfl rfl (fun i hi => th_sl_at k17x.2.2 (arrV_read _ _ hi)))
  have ho := th_OB_up (b := b17) (x := (22, a0)) ho (by have q9 := lb17; omega)
  have g_b8 : (th_up (th_up Γ b8 (21, a0)) b17 (22, a0)) b8 = (21, a0) := (th_up_n (dd_b17_b8)).trans (th_up_s)
  have g_b17 : (th_up (th_up Γ b8 (21, a0)) b17 (22, a0)) b17 = (22, a0) := th_up_s
  have nm0 : ¬ th_MR G (th_up (th_up Γ b8 (21, a0)) b17 (22, a0)) H19 a0 := fun w => hB.2.2.1 (th_MR_up (show (21 : Nat) ≠ 12 by decide) (th_MR_up (show (22 : Nat) ≠ 12 by decide) w))
  have hI2 := th_nmO (r := 20) hI1 ho hsz ro_20 rfl (fun j q hq => by
    match j, hq with
    | 0, hq => have e9 := Option.some.inj hq; subst e9; exact th_sO g_b8
    | 1, hq => have e9 := Option.some.inj hq; subst e9; exact th_sO g_b17
    | 2, hq => have e9 := Option.some.inj hq; subst e9; exact th_sN
    | 3, hq => have e9 := Option.some.inj hq; subst e9; exact th_sN
    | 4, hq => have e9 := Option.some.inj hq; subst e9; exact th_sI (x := 0) (by decide) (by decide)
    | 5, hq => have e9 := Option.some.inj hq; subst e9; exact th_sI (x := 0) (by decide) (by decide)
    | 6, hq => have e9 := Option.some.inj hq; subst e9; exact th_sI (x := 0) (by decide) (by decide)
    | 7, hq => have e9 := Option.some.inj hq; subst e9; exact th_sI (x := 0) (by decide) (by decide)
    | 8, hq => have e9 := Option.some.inj hq; subst e9; exact th_sI (x := 0) (by decide) (by decide)
    | n + 9, hq => exact absurd (List.getElem?_eq_some_iff.mp hq).1 (by simp))
  have hR2 := th_RC_up hI1 hR1 (x := (20, 0)) ho.1 nm0 hI2 (fun e => absurd e (by decide)) (fun e => absurd e (by decide)) (by decide)
  have hIN2 := th_IN_up (b := a0) (x := (20, 0)) hIN (ini_f (r := 20) ho rfl rfl rfl (fun j x hm => by
    cases hm) (fun j d hm => by
    rcases List.mem_cons.mp hm with e | hm
    · cases e; exact ⟨by decide, by rw [← of_b8]; rfl⟩
    rcases List.mem_cons.mp hm with e | hm
    · cases e; exact ⟨by decide, by rw [← of_b17]; rfl⟩
    cases hm))
  have gq : ∀ q, q < H0.size → q ≠ a0 → (th_up (th_up (th_up Γ b8 (21, a0)) b17 (22, a0)) a0 (20, 0)) q = Γ q := fun q h1 h2 => (((th_up_n h2).trans (th_up_n (by have q9 := lb17; omega))).trans (th_up_n (by have q9 := lb8; omega)))
  refine th_vret hC hH hr hlocks hB.1.2.1 ⟨rfl, (th_up (th_up (th_up Γ b8 (21, a0)) b17 (22, a0)) a0 (20, 0)), ⟨⟨hI2, (by omega), fun q h1 h2 => ⟨(gq q h1 h2).trans (hB.1.2.2.2.1 q h1 h2), hB.1.2.2.1 q h1 h2⟩⟩, hR2, th_up_s, fun q w => hB.2.2.2 q (th_MR_up (show (21 : Nat) ≠ 12 by decide) (th_MR_up (show (22 : Nat) ≠ 12 by decide) (th_MR_up (show (20 : Nat) ≠ 12 by decide) w))), fun q x o hg hq hs => ?_⟩, hIN2, hs⟩ dX5_init_22
  by_cases e_a0 : q = a0
  · rw [e_a0, th_up_s] at hg; cases hg; decide
  rw [th_up_n e_a0] at hg
  by_cases e_b17 : q = b17
  · rw [e_b17, th_up_s] at hg; cases hg; decide
  rw [th_up_n e_b17] at hg
  by_cases e_b8 : q = b8
  · rw [e_b8, th_up_s] at hg; cases hg; decide
  rw [th_up_n e_b8] at hg
  exact (show ∀ x ∈ ([] : List Nat), x ∈ [20, 21, 22] by decide) x (hN q x o hg hq hs)

set_option maxHeartbeats 4000000 in
set_option maxRecDepth 100000 in
theorem c_X6_init_i (l : Launch) (G : th_G) (Γ : th_Ga) (H0 : Heap) (hI : th_I G Γ H0) (hR : th_RC G Γ H0) (a0 : Nat) (ho : th_OB G Γ H0 a0 6 4 (fun j => defaultValue (tyX6 j))) (hsz : G.2.2 ≤ a0) (hlt : a0 < H0.size) (hm : ¬ th_MR G Γ H0 a0) (hz1 : H0.size = a0 + 1) : Met l yX6_init (.code yX6_init cX6_init 1 (none) :: th_tb) ({ frames := 1, cells := 3, slots := 90, locals := 12 } : Room) (th_P [.ref a0] G H0) (th_Q (fun (v : Option Value) (H1 : Heap) => v = none ∧ ∃ Γ1 : th_Ga, th_NY G Γ Γ1 a0 23 [23, 24, 25, 26] H0 H1 ∧ th_IN G Γ1 a0 H0 H1 ∧ H1.size = H0.size + 3) G) 3 90 (fun q => G.2.2 ≤ q) := by
  refine th_met RX6 (by decide) rfl (Nat.le_of_ble_eq_true rfl) ?_
  intro p e s m below meth c hC hH hr hlocks hnm ls hl
  have hx := hC.1
  have hb := hC.2.1
  have hB : th_NR G Γ Γ a0 H0 H0 [] := ⟨⟨hI, va_S.rf, fun _ _ _ => rfl, fun _ _ _ => rfl, ho.1, hsz, hlt⟩, hR, hm, fun q w => Or.inl w⟩
  have hl : lv_has ls 1 [(0, .ref a0)] := hl
  have hs : H0.size ≤ H0.size := Nat.le_refl _
  have hN := th_new_0 (a0 := a0) hI ho.1
  have hIN := th_IN_0 (a0 := a0) hI ho.1
  refine lv_aload_n hx hb dX6_init_0 rfl (lv_at hl 0 rfl) ?_
  refine W.objInit hx hb hC.2.2.2.1 (hC.2.2.2.2.1 _ kw_229) (hC.2.2.2.2.1 _ kw_28) (hC.2.2.2.2.1 _ kw_29) rfl (hl.1.trans hC.2.2.1.symm) rfl dX6_init_1 (Nat.le_of_ble_eq_true rfl) (Nat.le_of_ble_eq_true rfl) ?_
  refine W.eq (g2 := F0 m 4 ls []) rfl ?_
  refine lv_aload_n hx hb dX6_init_4 rfl (lv_at hl 0 rfl) ?_
  refine lv_bipush (v := 64) hx hb dX6_init_5 (by decide) ?_
  refine tc_newa (ty := .long) (t := 1) hC hB.1 rfl rfl rfl kw_246 (N := 64) tk_64 (by decide) (Nat.le_of_ble_eq_true rfl) (Nat.le_of_ble_eq_true rfl) dX6_init_7 (fun b7 H7 eb7 zb7 oq7 hB1 k7 => ?_)
  have u7 := k7.2.1
  have n70 : ¬ th_MR G Γ H0 b7 := fun w => absurd (th_MR_lt hB.2.1 w) (by omega)
  have hB := th_NR_s hB hB1 u7 n70 (by omega) oq7
  have hIN := th_IN_s hIN u7 oq7
  have n7 : ¬ th_MR G Γ H7 b7 := fun w => n70 (th_MR_s u7 oq7 w)
  have lb7 : H0.size ≤ b7 := by omega
  have ho := tc_OBo ho oq7 (by omega)
  have hs : H7.size = H0.size + 1 := by omega
  have lt_b7 : b7 < H7.size := by omega
  have of_b7 : b7 = a0 + 1 := by omega
  refine tc_putF hC cf_X6 hB.1 ho (j := 0) (by decide) rfl hnm rfl rfl kf_X6_9 dX6_init_9 (fun H9 locs hB1 ho z9 oq9 => ?_)
  have hu := hB.1.2.2.2.2.1
  have hB := th_NR_s hB hB1 hu hB.2.2.1 (by omega) oq9
  have hIN := th_IN_s hIN hu oq9
  have k7x := tm_MAo k7 oq9 (by have q9 := lb7; omega)
  have n7x : ¬ th_MR G Γ H9 b7 := fun w => n7 (th_MR_s hu oq9 w)
  have hs : H9.size = H0.size + 1 := by omega
  have lt_b7 : b7 < H9.size := by omega
  refine lv_aload_n hx hb dX6_init_12 rfl (lv_at hl 0 rfl) ?_
  refine lv_bipush (v := 23) hx hb dX6_init_13 (by decide) ?_
  refine tc_newa (ty := .int) (t := 0) hC hB.1 rfl rfl rfl kw_104 (N := 23) tk_23 (by decide) (Nat.le_of_ble_eq_true rfl) (Nat.le_of_ble_eq_true rfl) dX6_init_15 (fun b15 H15 eb15 zb15 oq15 hB1 k15 => ?_)
  have u15 := k15.2.1
  have n150 : ¬ th_MR G Γ H9 b15 := fun w => absurd (th_MR_lt hB.2.1 w) (by omega)
  have hB := th_NR_s hB hB1 u15 n150 (by omega) oq15
  have hIN := th_IN_s hIN u15 oq15
  have n15 : ¬ th_MR G Γ H15 b15 := fun w => n150 (th_MR_s u15 oq15 w)
  have lb15 : H0.size ≤ b15 := by omega
  have ho := tc_OBo ho oq15 (by omega)
  have k7xx := tm_MAo k7x oq15 (by have q9 := tm_lt k7x; omega)
  have n7xx : ¬ th_MR G Γ H15 b7 := fun w => n7x (th_MR_s u15 oq15 w)
  have hs : H15.size = H0.size + 2 := by omega
  have dd_b15_b7 : b7 ≠ b15 := by have q9 := lt_b7; omega
  have lt_b15 : b15 < H15.size := by omega
  have lt_b7 : b7 < H15.size := by omega
  have of_b15 : b15 = a0 + 2 := by omega
  refine tc_putF hC cf_X6 hB.1 ho (j := 1) (by decide) rfl hnm rfl rfl kf_X6_17 dX6_init_17 (fun H17 locs hB1 ho z17 oq17 => ?_)
  have hu := hB.1.2.2.2.2.1
  have hB := th_NR_s hB hB1 hu hB.2.2.1 (by omega) oq17
  have hIN := th_IN_s hIN hu oq17
  have k7xxx := tm_MAo k7xx oq17 (by have q9 := lb7; omega)
  have n7xxx : ¬ th_MR G Γ H17 b7 := fun w => n7xx (th_MR_s hu oq17 w)
  have k15x := tm_MAo k15 oq17 (by have q9 := lb15; omega)
  have n15x : ¬ th_MR G Γ H17 b15 := fun w => n15 (th_MR_s hu oq17 w)
  have hs : H17.size = H0.size + 2 := by omega
  have lt_b7 : b7 < H17.size := by omega
  have lt_b15 : b15 < H17.size := by omega
  refine lv_aload_n hx hb dX6_init_20 rfl (lv_at hl 0 rfl) ?_
  refine lv_iconst (v := 3) hx hb dX6_init_21 (by decide) ?_
  refine tc_newa (ty := .int) (t := 0) hC hB.1 rfl rfl rfl kw_104 (N := 3) tk_3 (by decide) (Nat.le_of_ble_eq_true rfl) (Nat.le_of_ble_eq_true rfl) dX6_init_22 (fun b22 H22 eb22 zb22 oq22 hB1 k22 => ?_)
  have u22 := k22.2.1
  have n220 : ¬ th_MR G Γ H17 b22 := fun w => absurd (th_MR_lt hB.2.1 w) (by omega)
  have hB := th_NR_s hB hB1 u22 n220 (by omega) oq22
  have hIN := th_IN_s hIN u22 oq22
  have n22 : ¬ th_MR G Γ H22 b22 := fun w => n220 (th_MR_s u22 oq22 w)
  have lb22 : H0.size ≤ b22 := by omega
  have ho := tc_OBo ho oq22 (by omega)
  have k7xxxx := tm_MAo k7xxx oq22 (by have q9 := tm_lt k7xxx; omega)
  have n7xxxx : ¬ th_MR G Γ H22 b7 := fun w => n7xxx (th_MR_s u22 oq22 w)
  have k15xx := tm_MAo k15x oq22 (by have q9 := tm_lt k15x; omega)
  have n15xx : ¬ th_MR G Γ H22 b15 := fun w => n15x (th_MR_s u22 oq22 w)
  have hs : H22.size = H0.size + 3 := by omega
  have dd_b22_b7 : b7 ≠ b22 := by have q9 := lt_b7; omega
  have dd_b22_b15 : b15 ≠ b22 := by have q9 := lt_b15; omega
  have lt_b22 : b22 < H22.size := by omega
  have lt_b7 : b7 < H22.size := by omega
  have lt_b15 : b15 < H22.size := by omega
  have of_b22 : b22 = a0 + 3 := by omega
  refine tc_putF hC cf_X6 hB.1 ho (j := 2) (by decide) rfl hnm rfl rfl kf_X6_23 dX6_init_24 (fun H24 locs hB1 ho z24 oq24 => ?_)
  have hu := hB.1.2.2.2.2.1
  have hB := th_NR_s hB hB1 hu hB.2.2.1 (by omega) oq24
  have hIN := th_IN_s hIN hu oq24
  have k7xxxxx := tm_MAo k7xxxx oq24 (by have q9 := lb7; omega)
  have n7xxxxx : ¬ th_MR G Γ H24 b7 := fun w => n7xxxx (th_MR_s hu oq24 w)
  have k15xxx := tm_MAo k15xx oq24 (by have q9 := lb15; omega)
  have n15xxx : ¬ th_MR G Γ H24 b15 := fun w => n15xx (th_MR_s hu oq24 w)
  have k22x := tm_MAo k22 oq24 (by have q9 := lb22; omega)
  have n22x : ¬ th_MR G Γ H24 b22 := fun w => n22 (th_MR_s hu oq24 w)
  have hs : H24.size = H0.size + 3 := by omega
  have lt_b7 : b7 < H24.size := by omega
  have lt_b15 : b15 < H24.size := by omega
  have lt_b22 : b22 < H24.size := by omega
  refine lv_aload_n hx hb dX6_init_27 rfl (lv_at hl 0 rfl) ?_
  refine lv_iconst (v := 0) hx hb dX6_init_28 (by decide) ?_
  refine tc_put hC cf_X6 hB.1 ho (j := 3) (by decide) rfl narrow_b0 rfl kf_X6_26 dX6_init_29 (fun H29 locs hB1 ho z29 oq29 => ?_)
  have hu := hB.1.2.2.2.2.1
  have hB := th_NR_s hB hB1 hu hB.2.2.1 (by omega) oq29
  have hIN := th_IN_s hIN hu oq29
  have k7xxxxxx := tm_MAo k7xxxxx oq29 (by have q9 := lb7; omega)
  have n7xxxxxx : ¬ th_MR G Γ H29 b7 := fun w => n7xxxxx (th_MR_s hu oq29 w)
  have k15xxxx := tm_MAo k15xxx oq29 (by have q9 := lb15; omega)
  have n15xxxx : ¬ th_MR G Γ H29 b15 := fun w => n15xxx (th_MR_s hu oq29 w)
  have k22xx := tm_MAo k22x oq29 (by have q9 := lb22; omega)
  have n22xx : ¬ th_MR G Γ H29 b22 := fun w => n22x (th_MR_s hu oq29 w)
  have hs : H29.size = H0.size + 3 := by omega
  have lt_b7 : b7 < H29.size := by omega
  have lt_b15 : b15 < H29.size := by omega
  have lt_b22 : b22 < H29.size := by omega
  have hI1 := hB.1.1
  have hR1 := hB.2.1
  have hI2 := th_nmA (r := 24) (o := a0) hI1 k7xxxxxx ro_24 (Nat.le_refl _) (Nat.le_refl _) (fun i _ => th_sLa (x := 0))
  have hR1 := th_RC_up hI1 hR1 (x := (24, a0)) k7xxxxxx.2.1 n7xxxxxx hI2 (fun e => absurd (show (24 : Nat) = 3 from e) (by decide)) (fun e => absurd (show (24 : Nat) = 18 ∨ (24 : Nat) = 19 from e) (by decide)) (show (24 : Nat) ≠ 12 by decide)
  have hI1 := hI2
  have hIN := th_IN_up (b := b7) (x := (24, a0)) hIN (ini_o rfl rfl rfl rfl)
  have ho := th_OB_up (b := b7) (x := (24, a0)) ho (by have q9 := lb7; omega)
  have k15xxxxu := th_MA_up (b := b7) (x := (24, a0)) k15xxxx (fun e => dd_b15_b7 e.symm)
  have n15xxxxu : ¬ th_MR G (th_up Γ b7 (24, a0)) H29 b15 := fun w => n15xxxx (th_MR_up (show (24 : Nat) ≠ 12 by decide) w)
  have k22xxu := th_MA_up (b := b7) (x := (24, a0)) k22xx (fun e => dd_b22_b7 e.symm)
  have n22xxu : ¬ th_MR G (th_up Γ b7 (24, a0)) H29 b22 := fun w => n22xx (th_MR_up (show (24 : Nat) ≠ 12 by decide) w)
  have hI2 := th_nmA (r := 25) (o := a0) hI1 k15xxxxu ro_25 (Nat.le_refl _) (Nat.le_refl _) (fun i _ => th_sI (x := 0) (by decide) (by decide))
  have hR1 := th_RC_up hI1 hR1 (x := (25, a0)) k15xxxxu.2.1 n15xxxxu hI2 (fun e => absurd (show (25 : Nat) = 3 from e) (by decide)) (fun e => absurd (show (25 : Nat) = 18 ∨ (25 : Nat) = 19 from e) (by decide)) (show (25 : Nat) ≠ 12 by decide)
  have hI1 := hI2
  have hIN := th_IN_up (b := b15) (x := (25, a0)) hIN (ini_r rfl rfl rfl rfl (fun i hi => th_sl_at k15xxxx.2.2 (arrV_read _ _ hi)))
  have ho := th_OB_up (b := b15) (x := (25, a0)) ho (by have q9 := lb15; omega)
  have k22xxuu := th_MA_up (b := b15) (x := (25, a0)) k22xxu (fun e => dd_b22_b15 e.symm)
  have n22xxuu : ¬ th_MR G (th_up (th_up Γ b7 (24, a0)) b15 (25, a0)) H29 b22 := fun w => n22xxu (th_MR_up (show (25 : Nat) ≠ 12 by decide) w)
  have hI2 := th_nmA (r := 26) (o := a0) hI1 k22xxuu ro_26 (Nat.le_refl _) (Nat.le_refl _) (fun i _ => th_sI (x := 0) (by decide) (by decide))
  have hR1 := th_RC_up hI1 hR1 (x := (26, a0)) k22xxuu.2.1 n22xxuu hI2 (fun e => absurd (show (26 : Nat) = 3 from e) (by decide)) (fun e => absurd (show (26 : Nat) = 18 ∨ (26 : Nat) = 19 from e) (by decide)) (show (26 : Nat) ≠ 12 by decide)
  have hI1 := hI2
  have hIN := th_IN_up (b := b22) (x := (26, a0)) hIN (ini_r rfl rfl rfl rfl (fun i hi => th_sl_at k22xx.2.2 (arrV_read _ _ hi)))
  have ho := th_OB_up (b := b22) (x := (26, a0)) ho (by have q9 := lb22; omega)
  have g_b7 : (th_up (th_up (th_up Γ b7 (24, a0)) b15 (25, a0)) b22 (26, a0)) b7 = (24, a0) := (th_up_n (dd_b22_b7)).trans ((th_up_n (dd_b15_b7)).trans (th_up_s))
  have g_b15 : (th_up (th_up (th_up Γ b7 (24, a0)) b15 (25, a0)) b22 (26, a0)) b15 = (25, a0) := (th_up_n (dd_b22_b15)).trans (th_up_s)
  have g_b22 : (th_up (th_up (th_up Γ b7 (24, a0)) b15 (25, a0)) b22 (26, a0)) b22 = (26, a0) := th_up_s
  have nm0 : ¬ th_MR G (th_up (th_up (th_up Γ b7 (24, a0)) b15 (25, a0)) b22 (26, a0)) H29 a0 := fun w => hB.2.2.1 (th_MR_up (show (24 : Nat) ≠ 12 by decide) (th_MR_up (show (25 : Nat) ≠ 12 by decide) (th_MR_up (show (26 : Nat) ≠ 12 by decide) w)))
  have hI2 := th_nmO (r := 23) hI1 ho hsz ro_23 rfl (fun j q hq => by
    match j, hq with
    | 0, hq => have e9 := Option.some.inj hq; subst e9; exact th_sO g_b7
    | 1, hq => have e9 := Option.some.inj hq; subst e9; exact th_sO g_b15
    | 2, hq => have e9 := Option.some.inj hq; subst e9; exact th_sO g_b22
    | 3, hq => have e9 := Option.some.inj hq; subst e9; exact th_sI (x := 0) (by decide) (by decide)
    | n + 4, hq => exact absurd (List.getElem?_eq_some_iff.mp hq).1 (by simp))
  have hR2 := th_RC_up hI1 hR1 (x := (23, 0)) ho.1 nm0 hI2 (fun e => absurd e (by decide)) (fun e => absurd e (by decide)) (by decide)
  have hIN2 := th_IN_up (b := a0) (x := (23, 0)) hIN (ini_f (r := 23) ho rfl rfl rfl (fun j x hm => by
    cases hm) (fun j d hm => by
    rcases List.mem_cons.mp hm with e | hm
    · cases e; exact ⟨by decide, by rw [← of_b7]; rfl⟩
    rcases List.mem_cons.mp hm with e | hm
    · cases e; exact ⟨by decide, by rw [← of_b15]; rfl⟩
    rcases List.mem_cons.mp hm with e | hm
    · cases e; exact ⟨by decide, by rw [← of_b22]; rfl⟩
    cases hm))
  have gq : ∀ q, q < H0.size → q ≠ a0 → (th_up (th_up (th_up (th_up Γ b7 (24, a0)) b15 (25, a0)) b22 (26, a0)) a0 (23, 0)) q = Γ q := fun q h1 h2 => ((((th_up_n h2).trans (th_up_n (by have q9 := lb22; omega))).trans (th_up_n (by have q9 := lb15; omega))).trans (th_up_n (by have q9 := lb7; omega)))
  refine th_vret hC hH hr hlocks hB.1.2.1 ⟨rfl, (th_up (th_up (th_up (th_up Γ b7 (24, a0)) b15 (25, a0)) b22 (26, a0)) a0 (23, 0)), ⟨⟨hI2, (by omega), fun q h1 h2 => ⟨(gq q h1 h2).trans (hB.1.2.2.2.1 q h1 h2), hB.1.2.2.1 q h1 h2⟩⟩, hR2, th_up_s, fun q w => hB.2.2.2 q (th_MR_up (show (24 : Nat) ≠ 12 by decide) (th_MR_up (show (25 : Nat) ≠ 12 by decide) (th_MR_up (show (26 : Nat) ≠ 12 by decide) (th_MR_up (show (23 : Nat) ≠ 12 by decide) w)))), fun q x o hg hq hs => ?_⟩, hIN2, hs⟩ dX6_init_32
  by_cases e_a0 : q = a0
  · rw [e_a0, th_up_s] at hg; cases hg; decide
  rw [th_up_n e_a0] at hg
  by_cases e_b22 : q = b22
  · rw [e_b22, th_up_s] at hg; cases hg; decide
  rw [th_up_n e_b22] at hg
  by_cases e_b15 : q = b15
  · rw [e_b15, th_up_s] at hg; cases hg; decide
  rw [th_up_n e_b15] at hg
  by_cases e_b7 : q = b7
  · rw [e_b7, th_up_s] at hg; cases hg; decide
  rw [th_up_n e_b7] at hg
  exact (show ∀ x ∈ ([] : List Nat), x ∈ [23, 24, 25, 26] by decide) x (hN q x o hg hq hs)

set_option maxHeartbeats 4000000 in
set_option maxRecDepth 100000 in
theorem c_X9_init_i (l : Launch) (G : th_G) (Γ : th_Ga) (H0 : Heap) (hI : th_I G Γ H0) (hR : th_RC G Γ H0) (a0 : Nat) (ho : th_OB G Γ H0 a0 9 2 (fun j => defaultValue (tyX9 j))) (hsz : G.2.2 ≤ a0) (hlt : a0 < H0.size) (hm : ¬ th_MR G Γ H0 a0) (hz1 : H0.size = a0 + 1) : Met l yX9_init (.code yX9_init cX9_init 1 (none) :: th_tb) ({ frames := 1, cells := 1, slots := 400, locals := 12 } : Room) (th_P [.ref a0] G H0) (th_Q (fun (v : Option Value) (H1 : Heap) => v = none ∧ ∃ Γ1 : th_Ga, th_NY G Γ Γ1 a0 37 [37, 38] H0 H1 ∧ th_IN G Γ1 a0 H0 H1 ∧ H1.size = H0.size + 1) G) 1 400 (fun q => G.2.2 ≤ q) := by
  refine th_met RX9 (by decide) rfl (Nat.le_of_ble_eq_true rfl) ?_
  intro p e s m below meth c hC hH hr hlocks hnm ls hl
  have hx := hC.1
  have hb := hC.2.1
  have hB : th_NR G Γ Γ a0 H0 H0 [] := ⟨⟨hI, va_S.rf, fun _ _ _ => rfl, fun _ _ _ => rfl, ho.1, hsz, hlt⟩, hR, hm, fun q w => Or.inl w⟩
  have hl : lv_has ls 1 [(0, .ref a0)] := hl
  have hs : H0.size ≤ H0.size := Nat.le_refl _
  have hN := th_new_0 (a0 := a0) hI ho.1
  have hIN := th_IN_0 (a0 := a0) hI ho.1
  refine lv_aload_n hx hb dX9_init_0 rfl (lv_at hl 0 rfl) ?_
  refine W.objInit hx hb hC.2.2.2.1 (hC.2.2.2.2.1 _ kw_175) (hC.2.2.2.2.1 _ kw_28) (hC.2.2.2.2.1 _ kw_29) rfl (hl.1.trans hC.2.2.1.symm) rfl dX9_init_1 (Nat.le_of_ble_eq_true rfl) (Nat.le_of_ble_eq_true rfl) ?_
  refine W.eq (g2 := F0 m 4 ls []) rfl ?_
  refine lv_aload_n hx hb dX9_init_4 rfl (lv_at hl 0 rfl) ?_
  refine lv_sipush (v := 400) hx hb dX9_init_5 (by decide) ?_
  refine tc_newa (ty := .int) (t := 0) hC hB.1 rfl rfl rfl kw_104 (N := 400) tk_400 (by decide) (Nat.le_of_ble_eq_true rfl) (Nat.le_of_ble_eq_true rfl) dX9_init_8 (fun b8 H8 eb8 zb8 oq8 hB1 k8 => ?_)
  have u8 := k8.2.1
  have n80 : ¬ th_MR G Γ H0 b8 := fun w => absurd (th_MR_lt hB.2.1 w) (by omega)
  have hB := th_NR_s hB hB1 u8 n80 (by omega) oq8
  have hIN := th_IN_s hIN u8 oq8
  have n8 : ¬ th_MR G Γ H8 b8 := fun w => n80 (th_MR_s u8 oq8 w)
  have lb8 : H0.size ≤ b8 := by omega
  have ho := tc_OBo ho oq8 (by omega)
  have hs : H8.size = H0.size + 1 := by omega
  have lt_b8 : b8 < H8.size := by omega
  have of_b8 : b8 = a0 + 1 := by omega
  refine tc_putF hC cf_X9 hB.1 ho (j := 0) (by decide) rfl hnm rfl rfl kf_X9_9 dX9_init_10 (fun H10 locs hB1 ho z10 oq10 => ?_)
  have hu := hB.1.2.2.2.2.1
  have hB := th_NR_s hB hB1 hu hB.2.2.1 (by omega) oq10
  have hIN := th_IN_s hIN hu oq10
  have k8x := tm_MAo k8 oq10 (by have q9 := lb8; omega)
  have n8x : ¬ th_MR G Γ H10 b8 := fun w => n8 (th_MR_s hu oq10 w)
  have hs : H10.size = H0.size + 1 := by omega
  have lt_b8 : b8 < H10.size := by omega
  refine lv_aload_n hx hb dX9_init_13 rfl (lv_at hl 0 rfl) ?_
  refine lv_iconst (v := 0) hx hb dX9_init_14 (by decide) ?_
  refine tc_put hC cf_X9 hB.1 ho (j := 1) (by decide) rfl rfl rfl kf_X9_15 dX9_init_15 (fun H15 locs hB1 ho z15 oq15 => ?_)
  have hu := hB.1.2.2.2.2.1
  have hB := th_NR_s hB hB1 hu hB.2.2.1 (by omega) oq15
  have hIN := th_IN_s hIN hu oq15
  have k8xx := tm_MAo k8x oq15 (by have q9 := lb8; omega)
  have n8xx : ¬ th_MR G Γ H15 b8 := fun w => n8x (th_MR_s hu oq15 w)
  have hs : H15.size = H0.size + 1 := by omega
  have lt_b8 : b8 < H15.size := by omega
  have hI1 := hB.1.1
  have hR1 := hB.2.1
  have hI2 := th_nmA (r := 38) (o := a0) hI1 k8xx ro_38 (Nat.le_refl _) (Nat.le_refl _) (fun i _ => th_sI (x := 0) (by decide) (by decide))
  have hR1 := th_RC_up hI1 hR1 (x := (38, a0)) k8xx.2.1 n8xx hI2 (fun e => absurd (show (38 : Nat) = 3 from e) (by decide)) (fun e => absurd (show (38 : Nat) = 18 ∨ (38 : Nat) = 19 from e) (by decide)) (show (38 : Nat) ≠ 12 by decide)
  have hI1 := hI2
  have hIN := th_IN_up (b := b8) (x := (38, a0)) hIN (ini_r rfl rfl rfl rfl (fun i hi => th_sl_at k8xx.2.2 (arrV_read _ _ hi)))
  have ho := th_OB_up (b := b8) (x := (38, a0)) ho (by have q9 := lb8; omega)
  have g_b8 : (th_up Γ b8 (38, a0)) b8 = (38, a0) := th_up_s
  have nm0 : ¬ th_MR G (th_up Γ b8 (38, a0)) H15 a0 := fun w => hB.2.2.1 (th_MR_up (show (38 : Nat) ≠ 12 by decide) w)
  have hI2 := th_nmO (r := 37) hI1 ho hsz ro_37 rfl (fun j q hq => by
    match j, hq with
    | 0, hq => have e9 := Option.some.inj hq; subst e9; exact th_sO g_b8
    | 1, hq => have e9 := Option.some.inj hq; subst e9; exact th_sI (x := 0) (by decide) (by decide)
    | n + 2, hq => exact absurd (List.getElem?_eq_some_iff.mp hq).1 (by simp))
  have hR2 := th_RC_up hI1 hR1 (x := (37, 0)) ho.1 nm0 hI2 (fun e => absurd e (by decide)) (fun e => absurd e (by decide)) (by decide)
  have hIN2 := th_IN_up (b := a0) (x := (37, 0)) hIN (ini_f (r := 37) ho rfl rfl rfl (fun j x hm => by
    rcases List.mem_cons.mp hm with e | hm
    · cases e; exact ⟨by decide, rfl⟩
    cases hm) (fun j d hm => by
    rcases List.mem_cons.mp hm with e | hm
    · cases e; exact ⟨by decide, by rw [← of_b8]; rfl⟩
    cases hm))
  have gq : ∀ q, q < H0.size → q ≠ a0 → (th_up (th_up Γ b8 (38, a0)) a0 (37, 0)) q = Γ q := fun q h1 h2 => ((th_up_n h2).trans (th_up_n (by have q9 := lb8; omega)))
  refine th_vret hC hH hr hlocks hB.1.2.1 ⟨rfl, (th_up (th_up Γ b8 (38, a0)) a0 (37, 0)), ⟨⟨hI2, (by omega), fun q h1 h2 => ⟨(gq q h1 h2).trans (hB.1.2.2.2.1 q h1 h2), hB.1.2.2.1 q h1 h2⟩⟩, hR2, th_up_s, fun q w => hB.2.2.2 q (th_MR_up (show (38 : Nat) ≠ 12 by decide) (th_MR_up (show (37 : Nat) ≠ 12 by decide) w)), fun q x o hg hq hs => ?_⟩, hIN2, hs⟩ dX9_init_18
  by_cases e_a0 : q = a0
  · rw [e_a0, th_up_s] at hg; cases hg; decide
  rw [th_up_n e_a0] at hg
  by_cases e_b8 : q = b8
  · rw [e_b8, th_up_s] at hg; cases hg; decide
  rw [th_up_n e_b8] at hg
  exact (show ∀ x ∈ ([] : List Nat), x ∈ [37, 38] by decide) x (hN q x o hg hq hs)

set_option maxHeartbeats 4000000 in
set_option maxRecDepth 100000 in
theorem c_X10_init_i (l : Launch) (G : th_G) (Γ : th_Ga) (H0 : Heap) (hI : th_I G Γ H0) (hR : th_RC G Γ H0) (a0 : Nat) (ho : th_OB G Γ H0 a0 10 4 (fun j => defaultValue (tyX10 j))) (hsz : G.2.2 ≤ a0) (hlt : a0 < H0.size) (hm : ¬ th_MR G Γ H0 a0) (hz1 : H0.size = a0 + 1) : Met l yX10_init (.code yX10_init cX10_init 1 (none) :: th_tb) ({ frames := 1, cells := 2, slots := 496, locals := 12 } : Room) (th_P [.ref a0] G H0) (th_Q (fun (v : Option Value) (H1 : Heap) => v = none ∧ ∃ Γ1 : th_Ga, th_NY G Γ Γ1 a0 39 [39, 40, 41] H0 H1 ∧ th_IN G Γ1 a0 H0 H1 ∧ H1.size = H0.size + 2) G) 2 496 (fun q => G.2.2 ≤ q) := by
  refine th_met RX10 (by decide) rfl (Nat.le_of_ble_eq_true rfl) ?_
  intro p e s m below meth c hC hH hr hlocks hnm ls hl
  have hx := hC.1
  have hb := hC.2.1
  have hB : th_NR G Γ Γ a0 H0 H0 [] := ⟨⟨hI, va_S.rf, fun _ _ _ => rfl, fun _ _ _ => rfl, ho.1, hsz, hlt⟩, hR, hm, fun q w => Or.inl w⟩
  have hl : lv_has ls 1 [(0, .ref a0)] := hl
  have hs : H0.size ≤ H0.size := Nat.le_refl _
  have hN := th_new_0 (a0 := a0) hI ho.1
  have hIN := th_IN_0 (a0 := a0) hI ho.1
  refine lv_aload_n hx hb dX10_init_0 rfl (lv_at hl 0 rfl) ?_
  refine W.objInit hx hb hC.2.2.2.1 (hC.2.2.2.2.1 _ kw_111) (hC.2.2.2.2.1 _ kw_28) (hC.2.2.2.2.1 _ kw_29) rfl (hl.1.trans hC.2.2.1.symm) rfl dX10_init_1 (Nat.le_of_ble_eq_true rfl) (Nat.le_of_ble_eq_true rfl) ?_
  refine W.eq (g2 := F0 m 4 ls []) rfl ?_
  refine lv_aload_n hx hb dX10_init_4 rfl (lv_at hl 0 rfl) ?_
  refine lv_sipush (v := 400) hx hb dX10_init_5 (by decide) ?_
  refine tc_newa (ty := .int) (t := 0) hC hB.1 rfl rfl rfl kw_104 (N := 400) tk_400 (by decide) (Nat.le_of_ble_eq_true rfl) (Nat.le_of_ble_eq_true rfl) dX10_init_8 (fun b8 H8 eb8 zb8 oq8 hB1 k8 => ?_)
  have u8 := k8.2.1
  have n80 : ¬ th_MR G Γ H0 b8 := fun w => absurd (th_MR_lt hB.2.1 w) (by omega)
  have hB := th_NR_s hB hB1 u8 n80 (by omega) oq8
  have hIN := th_IN_s hIN u8 oq8
  have n8 : ¬ th_MR G Γ H8 b8 := fun w => n80 (th_MR_s u8 oq8 w)
  have lb8 : H0.size ≤ b8 := by omega
  have ho := tc_OBo ho oq8 (by omega)
  have hs : H8.size = H0.size + 1 := by omega
  have lt_b8 : b8 < H8.size := by omega
  have of_b8 : b8 = a0 + 1 := by omega
  refine tc_putF hC cf_X10 hB.1 ho (j := 0) (by decide) rfl hnm rfl rfl kf_X10_11 dX10_init_10 (fun H10 locs hB1 ho z10 oq10 => ?_)
  have hu := hB.1.2.2.2.2.1
  have hB := th_NR_s hB hB1 hu hB.2.2.1 (by omega) oq10
  have hIN := th_IN_s hIN hu oq10
  have k8x := tm_MAo k8 oq10 (by have q9 := lb8; omega)
  have n8x : ¬ th_MR G Γ H10 b8 := fun w => n8 (th_MR_s hu oq10 w)
  have hs : H10.size = H0.size + 1 := by omega
  have lt_b8 : b8 < H10.size := by omega
  refine lv_aload_n hx hb dX10_init_13 rfl (lv_at hl 0 rfl) ?_
  refine lv_bipush (v := 96) hx hb dX10_init_14 (by decide) ?_
  refine tc_newa (ty := .int) (t := 0) hC hB.1 rfl rfl rfl kw_104 (N := 96) tk_96 (by decide) (Nat.le_of_ble_eq_true rfl) (Nat.le_of_ble_eq_true rfl) dX10_init_16 (fun b16 H16 eb16 zb16 oq16 hB1 k16 => ?_)
  have u16 := k16.2.1
  have n160 : ¬ th_MR G Γ H10 b16 := fun w => absurd (th_MR_lt hB.2.1 w) (by omega)
  have hB := th_NR_s hB hB1 u16 n160 (by omega) oq16
  have hIN := th_IN_s hIN u16 oq16
  have n16 : ¬ th_MR G Γ H16 b16 := fun w => n160 (th_MR_s u16 oq16 w)
  have lb16 : H0.size ≤ b16 := by omega
  have ho := tc_OBo ho oq16 (by omega)
  have k8xx := tm_MAo k8x oq16 (by have q9 := tm_lt k8x; omega)
  have n8xx : ¬ th_MR G Γ H16 b8 := fun w => n8x (th_MR_s u16 oq16 w)
  have hs : H16.size = H0.size + 2 := by omega
  have dd_b16_b8 : b8 ≠ b16 := by have q9 := lt_b8; omega
  have lt_b16 : b16 < H16.size := by omega
  have lt_b8 : b8 < H16.size := by omega
  have of_b16 : b16 = a0 + 2 := by omega
  refine tc_putF hC cf_X10 hB.1 ho (j := 1) (by decide) rfl hnm rfl rfl kf_X10_15 dX10_init_18 (fun H18 locs hB1 ho z18 oq18 => ?_)
  have hu := hB.1.2.2.2.2.1
  have hB := th_NR_s hB hB1 hu hB.2.2.1 (by omega) oq18
  have hIN := th_IN_s hIN hu oq18
  have k8xxx := tm_MAo k8xx oq18 (by have q9 := lb8; omega)
  have n8xxx : ¬ th_MR G Γ H18 b8 := fun w => n8xx (th_MR_s hu oq18 w)
  have k16x := tm_MAo k16 oq18 (by have q9 := lb16; omega)
  have n16x : ¬ th_MR G Γ H18 b16 := fun w => n16 (th_MR_s hu oq18 w)
  have hs : H18.size = H0.size + 2 := by omega
  have lt_b8 : b8 < H18.size := by omega
  have lt_b16 : b16 < H18.size := by omega
  refine lv_aload_n hx hb dX10_init_21 rfl (lv_at hl 0 rfl) ?_
  refine lv_iconst (v := 0) hx hb dX10_init_22 (by decide) ?_
  refine tc_put hC cf_X10 hB.1 ho (j := 2) (by decide) rfl rfl rfl kf_X10_18 dX10_init_23 (fun H23 locs hB1 ho z23 oq23 => ?_)
  have hu := hB.1.2.2.2.2.1
  have hB := th_NR_s hB hB1 hu hB.2.2.1 (by omega) oq23
  have hIN := th_IN_s hIN hu oq23
  have k8xxxx := tm_MAo k8xxx oq23 (by have q9 := lb8; omega)
  have n8xxxx : ¬ th_MR G Γ H23 b8 := fun w => n8xxx (th_MR_s hu oq23 w)
  have k16xx := tm_MAo k16x oq23 (by have q9 := lb16; omega)
  have n16xx : ¬ th_MR G Γ H23 b16 := fun w => n16x (th_MR_s hu oq23 w)
  have hs : H23.size = H0.size + 2 := by omega
  have lt_b8 : b8 < H23.size := by omega
  have lt_b16 : b16 < H23.size := by omega
  refine lv_aload_n hx hb dX10_init_26 rfl (lv_at hl 0 rfl) ?_
  refine lv_iconst (v := 0) hx hb dX10_init_27 (by decide) ?_
  refine tc_put hC cf_X10 hB.1 ho (j := 3) (by decide) rfl rfl rfl kf_X10_22 dX10_init_28 (fun H28 locs hB1 ho z28 oq28 => ?_)
  have hu := hB.1.2.2.2.2.1
  have hB := th_NR_s hB hB1 hu hB.2.2.1 (by omega) oq28
  have hIN := th_IN_s hIN hu oq28
  have k8xxxxx := tm_MAo k8xxxx oq28 (by have q9 := lb8; omega)
  have n8xxxxx : ¬ th_MR G Γ H28 b8 := fun w => n8xxxx (th_MR_s hu oq28 w)
  have k16xxx := tm_MAo k16xx oq28 (by have q9 := lb16; omega)
  have n16xxx : ¬ th_MR G Γ H28 b16 := fun w => n16xx (th_MR_s hu oq28 w)
  have hs : H28.size = H0.size + 2 := by omega
  have lt_b8 : b8 < H28.size := by omega
  have lt_b16 : b16 < H28.size := by omega
  have hI1 := hB.1.1
  have hR1 := hB.2.1
  have hI2 := th_nmA (r := 40) (o := a0) hI1 k8xxxxx ro_40 (Nat.le_refl _) (Nat.le_refl _) (fun i _ => th_sI (x := 0) (by decide) (by decide))
  have hR1 := th_RC_up hI1 hR1 (x := (40, a0)) k8xxxxx.2.1 n8xxxxx hI2 (fun e => absurd (show (40 : Nat) = 3 from e) (by decide)) (fun e => absurd (show (40 : Nat) = 18 ∨ (40 : Nat) = 19 from e) (by decide)) (show (40 : Nat) ≠ 12 by decide)
  have hI1 := hI2
  have hIN := th_IN_up (b := b8) (x := (40, a0)) hIN (ini_r rfl rfl rfl rfl (fun i hi => th_sl_at k8xxxxx.2.2 (arrV_read _ _ hi)))
  have ho := th_OB_up (b := b8) (x := (40, a0)) ho (by have q9 := lb8; omega)
  have k16xxxu := th_MA_up (b := b8) (x := (40, a0)) k16xxx (fun e => dd_b16_b8 e.symm)
  have n16xxxu : ¬ th_MR G (th_up Γ b8 (40, a0)) H28 b16 := fun w => n16xxx (th_MR_up (show (40 : Nat) ≠ 12 by decide) w)
  have hI2 := th_nmA (r := 41) (o := a0) hI1 k16xxxu ro_41 (Nat.le_refl _) (Nat.le_refl _) (fun i _ => th_esm_st (Or.inr (by decide)))
  have hR1 := th_RC_up hI1 hR1 (x := (41, a0)) k16xxxu.2.1 n16xxxu hI2 (fun e => absurd (show (41 : Nat) = 3 from e) (by decide)) (fun e => absurd (show (41 : Nat) = 18 ∨ (41 : Nat) = 19 from e) (by decide)) (show (41 : Nat) ≠ 12 by decide)
  have hI1 := hI2
  have hIN := th_IN_up (b := b16) (x := (41, a0)) hIN (ini_r rfl rfl rfl rfl (fun i hi => th_sl_at k16xxx.2.2 (arrV_read _ _ hi)))
  have ho := th_OB_up (b := b16) (x := (41, a0)) ho (by have q9 := lb16; omega)
  have g_b8 : (th_up (th_up Γ b8 (40, a0)) b16 (41, a0)) b8 = (40, a0) := (th_up_n (dd_b16_b8)).trans (th_up_s)
  have g_b16 : (th_up (th_up Γ b8 (40, a0)) b16 (41, a0)) b16 = (41, a0) := th_up_s
  have nm0 : ¬ th_MR G (th_up (th_up Γ b8 (40, a0)) b16 (41, a0)) H28 a0 := fun w => hB.2.2.1 (th_MR_up (show (40 : Nat) ≠ 12 by decide) (th_MR_up (show (41 : Nat) ≠ 12 by decide) w))
  have hI2 := th_nmO (r := 39) hI1 ho hsz ro_39 rfl (fun j q hq => by
    match j, hq with
    | 0, hq => have e9 := Option.some.inj hq; subst e9; exact th_sO g_b8
    | 1, hq => have e9 := Option.some.inj hq; subst e9; exact th_sO g_b16
    | 2, hq => have e9 := Option.some.inj hq; subst e9; exact th_sI (x := 0) (by decide) (by decide)
    | 3, hq => have e9 := Option.some.inj hq; subst e9; exact th_sI (x := 0) (by decide) (by decide)
    | n + 4, hq => exact absurd (List.getElem?_eq_some_iff.mp hq).1 (by simp))
  have hR2 := th_RC_up hI1 hR1 (x := (39, 0)) ho.1 nm0 hI2 (fun e => absurd e (by decide)) (fun e => absurd e (by decide)) (by decide)
  have hIN2 := th_IN_up (b := a0) (x := (39, 0)) hIN (ini_f (r := 39) ho rfl rfl rfl (fun j x hm => by
    rcases List.mem_cons.mp hm with e | hm
    · cases e; exact ⟨by decide, rfl⟩
    rcases List.mem_cons.mp hm with e | hm
    · cases e; exact ⟨by decide, rfl⟩
    cases hm) (fun j d hm => by
    rcases List.mem_cons.mp hm with e | hm
    · cases e; exact ⟨by decide, by rw [← of_b8]; rfl⟩
    rcases List.mem_cons.mp hm with e | hm
    · cases e; exact ⟨by decide, by rw [← of_b16]; rfl⟩
    cases hm))
  have gq : ∀ q, q < H0.size → q ≠ a0 → (th_up (th_up (th_up Γ b8 (40, a0)) b16 (41, a0)) a0 (39, 0)) q = Γ q := fun q h1 h2 => (((th_up_n h2).trans (th_up_n (by have q9 := lb16; omega))).trans (th_up_n (by have q9 := lb8; omega)))
  refine th_vret hC hH hr hlocks hB.1.2.1 ⟨rfl, (th_up (th_up (th_up Γ b8 (40, a0)) b16 (41, a0)) a0 (39, 0)), ⟨⟨hI2, (by omega), fun q h1 h2 => ⟨(gq q h1 h2).trans (hB.1.2.2.2.1 q h1 h2), hB.1.2.2.1 q h1 h2⟩⟩, hR2, th_up_s, fun q w => hB.2.2.2 q (th_MR_up (show (40 : Nat) ≠ 12 by decide) (th_MR_up (show (41 : Nat) ≠ 12 by decide) (th_MR_up (show (39 : Nat) ≠ 12 by decide) w))), fun q x o hg hq hs => ?_⟩, hIN2, hs⟩ dX10_init_31
  by_cases e_a0 : q = a0
  · rw [e_a0, th_up_s] at hg; cases hg; decide
  rw [th_up_n e_a0] at hg
  by_cases e_b16 : q = b16
  · rw [e_b16, th_up_s] at hg; cases hg; decide
  rw [th_up_n e_b16] at hg
  by_cases e_b8 : q = b8
  · rw [e_b8, th_up_s] at hg; cases hg; decide
  rw [th_up_n e_b8] at hg
  exact (show ∀ x ∈ ([] : List Nat), x ∈ [39, 40, 41] by decide) x (hN q x o hg hq hs)

set_option maxHeartbeats 4000000 in
set_option maxRecDepth 100000 in
theorem c_X1_init_i (l : Launch) (G : th_G) (Γ : th_Ga) (H0 : Heap) (hI : th_I G Γ H0) (hR : th_RC G Γ H0) (a0 : Nat) (ho : th_OB G Γ H0 a0 1 11 (fun j => defaultValue (tyX1 j))) (hsz : G.2.2 ≤ a0) (hlt : a0 < H0.size) (hm : ¬ th_MR G Γ H0 a0) (hz1 : H0.size = a0 + 1) : Met l yX1_init (.code yX1_init cX1_init 1 (none) :: th_tb) ({ frames := 1, cells := 7, slots := 60, locals := 12 } : Room) (th_P [.ref a0] G H0) (th_Q (fun (v : Option Value) (H1 : Heap) => v = none ∧ ∃ Γ1 : th_Ga, th_NY G Γ Γ1 a0 3 [3, 4, 5, 6, 7, 8, 9, 10] H0 H1 ∧ th_IN G Γ1 a0 H0 H1 ∧ H1.size = H0.size + 7) G) 7 60 (fun q => G.2.2 ≤ q) := by
  refine th_met RX1 (by decide) rfl (Nat.le_of_ble_eq_true rfl) ?_
  intro p e s m below meth c hC hH hr hlocks hnm ls hl
  have hx := hC.1
  have hb := hC.2.1
  have hB : th_NR G Γ Γ a0 H0 H0 [] := ⟨⟨hI, va_S.rf, fun _ _ _ => rfl, fun _ _ _ => rfl, ho.1, hsz, hlt⟩, hR, hm, fun q w => Or.inl w⟩
  have hl : lv_has ls 1 [(0, .ref a0)] := hl
  have hs : H0.size ≤ H0.size := Nat.le_refl _
  have hN := th_new_0 (a0 := a0) hI ho.1
  have hIN := th_IN_0 (a0 := a0) hI ho.1
  refine lv_aload_n hx hb dX1_init_0 rfl (lv_at hl 0 rfl) ?_
  refine W.objInit hx hb hC.2.2.2.1 (hC.2.2.2.2.1 _ kw_41) (hC.2.2.2.2.1 _ kw_28) (hC.2.2.2.2.1 _ kw_29) rfl (hl.1.trans hC.2.2.1.symm) rfl dX1_init_1 (Nat.le_of_ble_eq_true rfl) (Nat.le_of_ble_eq_true rfl) ?_
  refine W.eq (g2 := F0 m 4 ls []) rfl ?_
  refine lv_aload_n hx hb dX1_init_4 rfl (lv_at hl 0 rfl) ?_
  refine lv_bipush (v := 9) hx hb dX1_init_5 (by decide) ?_
  refine tc_newa (ty := .int) (t := 0) hC hB.1 rfl rfl rfl kw_104 (N := 9) tk_9 (by decide) (Nat.le_of_ble_eq_true rfl) (Nat.le_of_ble_eq_true rfl) dX1_init_7 (fun b7 H7 eb7 zb7 oq7 hB1 k7 => ?_)
  have u7 := k7.2.1
  have n70 : ¬ th_MR G Γ H0 b7 := fun w => absurd (th_MR_lt hB.2.1 w) (by omega)
  have hB := th_NR_s hB hB1 u7 n70 (by omega) oq7
  have hIN := th_IN_s hIN u7 oq7
  have n7 : ¬ th_MR G Γ H7 b7 := fun w => n70 (th_MR_s u7 oq7 w)
  have lb7 : H0.size ≤ b7 := by omega
  have ho := tc_OBo ho oq7 (by omega)
  have hs : H7.size = H0.size + 1 := by omega
  have lt_b7 : b7 < H7.size := by omega
  have of_b7 : b7 = a0 + 1 := by omega
  refine tc_putF hC cf_X1 hB.1 ho (j := 0) (by decide) rfl hnm rfl rfl kf_X1_9 dX1_init_9 (fun H9 locs hB1 ho z9 oq9 => ?_)
  have hu := hB.1.2.2.2.2.1
  have hB := th_NR_s hB hB1 hu hB.2.2.1 (by omega) oq9
  have hIN := th_IN_s hIN hu oq9
  have k7x := tm_MAo k7 oq9 (by have q9 := lb7; omega)
  have n7x : ¬ th_MR G Γ H9 b7 := fun w => n7 (th_MR_s hu oq9 w)
  have hs : H9.size = H0.size + 1 := by omega
  have lt_b7 : b7 < H9.size := by omega
  refine lv_aload_n hx hb dX1_init_12 rfl (lv_at hl 0 rfl) ?_
  refine lv_bipush (v := 9) hx hb dX1_init_13 (by decide) ?_
  refine tc_newa (ty := .int) (t := 0) hC hB.1 rfl rfl rfl kw_104 (N := 9) tk_9 (by decide) (Nat.le_of_ble_eq_true rfl) (Nat.le_of_ble_eq_true rfl) dX1_init_15 (fun b15 H15 eb15 zb15 oq15 hB1 k15 => ?_)
  have u15 := k15.2.1
  have n150 : ¬ th_MR G Γ H9 b15 := fun w => absurd (th_MR_lt hB.2.1 w) (by omega)
  have hB := th_NR_s hB hB1 u15 n150 (by omega) oq15
  have hIN := th_IN_s hIN u15 oq15
  have n15 : ¬ th_MR G Γ H15 b15 := fun w => n150 (th_MR_s u15 oq15 w)
  have lb15 : H0.size ≤ b15 := by omega
  have ho := tc_OBo ho oq15 (by omega)
  have k7xx := tm_MAo k7x oq15 (by have q9 := tm_lt k7x; omega)
  have n7xx : ¬ th_MR G Γ H15 b7 := fun w => n7x (th_MR_s u15 oq15 w)
  have hs : H15.size = H0.size + 2 := by omega
  have dd_b15_b7 : b7 ≠ b15 := by have q9 := lt_b7; omega
  have lt_b15 : b15 < H15.size := by omega
  have lt_b7 : b7 < H15.size := by omega
  have of_b15 : b15 = a0 + 2 := by omega
  refine tc_putF hC cf_X1 hB.1 ho (j := 1) (by decide) rfl hnm rfl rfl kf_X1_15 dX1_init_17 (fun H17 locs hB1 ho z17 oq17 => ?_)
  have hu := hB.1.2.2.2.2.1
  have hB := th_NR_s hB hB1 hu hB.2.2.1 (by omega) oq17
  have hIN := th_IN_s hIN hu oq17
  have k7xxx := tm_MAo k7xx oq17 (by have q9 := lb7; omega)
  have n7xxx : ¬ th_MR G Γ H17 b7 := fun w => n7xx (th_MR_s hu oq17 w)
  have k15x := tm_MAo k15 oq17 (by have q9 := lb15; omega)
  have n15x : ¬ th_MR G Γ H17 b15 := fun w => n15 (th_MR_s hu oq17 w)
  have hs : H17.size = H0.size + 2 := by omega
  have lt_b7 : b7 < H17.size := by omega
  have lt_b15 : b15 < H17.size := by omega
  refine lv_aload_n hx hb dX1_init_20 rfl (lv_at hl 0 rfl) ?_
  refine lv_bipush (v := 9) hx hb dX1_init_21 (by decide) ?_
  refine tc_newa (ty := .int) (t := 0) hC hB.1 rfl rfl rfl kw_104 (N := 9) tk_9 (by decide) (Nat.le_of_ble_eq_true rfl) (Nat.le_of_ble_eq_true rfl) dX1_init_23 (fun b23 H23 eb23 zb23 oq23 hB1 k23 => ?_)
  have u23 := k23.2.1
  have n230 : ¬ th_MR G Γ H17 b23 := fun w => absurd (th_MR_lt hB.2.1 w) (by omega)
  have hB := th_NR_s hB hB1 u23 n230 (by omega) oq23
  have hIN := th_IN_s hIN u23 oq23
  have n23 : ¬ th_MR G Γ H23 b23 := fun w => n230 (th_MR_s u23 oq23 w)
  have lb23 : H0.size ≤ b23 := by omega
  have ho := tc_OBo ho oq23 (by omega)
  have k7xxxx := tm_MAo k7xxx oq23 (by have q9 := tm_lt k7xxx; omega)
  have n7xxxx : ¬ th_MR G Γ H23 b7 := fun w => n7xxx (th_MR_s u23 oq23 w)
  have k15xx := tm_MAo k15x oq23 (by have q9 := tm_lt k15x; omega)
  have n15xx : ¬ th_MR G Γ H23 b15 := fun w => n15x (th_MR_s u23 oq23 w)
  have hs : H23.size = H0.size + 3 := by omega
  have dd_b23_b7 : b7 ≠ b23 := by have q9 := lt_b7; omega
  have dd_b23_b15 : b15 ≠ b23 := by have q9 := lt_b15; omega
  have lt_b23 : b23 < H23.size := by omega
  have lt_b7 : b7 < H23.size := by omega
  have lt_b15 : b15 < H23.size := by omega
  have of_b23 : b23 = a0 + 3 := by omega
  refine tc_putF hC cf_X1 hB.1 ho (j := 2) (by decide) rfl hnm rfl rfl kf_X1_18 dX1_init_25 (fun H25 locs hB1 ho z25 oq25 => ?_)
  have hu := hB.1.2.2.2.2.1
  have hB := th_NR_s hB hB1 hu hB.2.2.1 (by omega) oq25
  have hIN := th_IN_s hIN hu oq25
  have k7xxxxx := tm_MAo k7xxxx oq25 (by have q9 := lb7; omega)
  have n7xxxxx : ¬ th_MR G Γ H25 b7 := fun w => n7xxxx (th_MR_s hu oq25 w)
  have k15xxx := tm_MAo k15xx oq25 (by have q9 := lb15; omega)
  have n15xxx : ¬ th_MR G Γ H25 b15 := fun w => n15xx (th_MR_s hu oq25 w)
  have k23x := tm_MAo k23 oq25 (by have q9 := lb23; omega)
  have n23x : ¬ th_MR G Γ H25 b23 := fun w => n23 (th_MR_s hu oq25 w)
  have hs : H25.size = H0.size + 3 := by omega
  have lt_b7 : b7 < H25.size := by omega
  have lt_b15 : b15 < H25.size := by omega
  have lt_b23 : b23 < H25.size := by omega
  refine lv_aload_n hx hb dX1_init_28 rfl (lv_at hl 0 rfl) ?_
  refine lv_bipush (v := 9) hx hb dX1_init_29 (by decide) ?_
  refine tc_newa (ty := .int) (t := 0) hC hB.1 rfl rfl rfl kw_104 (N := 9) tk_9 (by decide) (Nat.le_of_ble_eq_true rfl) (Nat.le_of_ble_eq_true rfl) dX1_init_31 (fun b31 H31 eb31 zb31 oq31 hB1 k31 => ?_)
  have u31 := k31.2.1
  have n310 : ¬ th_MR G Γ H25 b31 := fun w => absurd (th_MR_lt hB.2.1 w) (by omega)
  have hB := th_NR_s hB hB1 u31 n310 (by omega) oq31
  have hIN := th_IN_s hIN u31 oq31
  have n31 : ¬ th_MR G Γ H31 b31 := fun w => n310 (th_MR_s u31 oq31 w)
  have lb31 : H0.size ≤ b31 := by omega
  have ho := tc_OBo ho oq31 (by omega)
  have k7xxxxxx := tm_MAo k7xxxxx oq31 (by have q9 := tm_lt k7xxxxx; omega)
  have n7xxxxxx : ¬ th_MR G Γ H31 b7 := fun w => n7xxxxx (th_MR_s u31 oq31 w)
  have k15xxxx := tm_MAo k15xxx oq31 (by have q9 := tm_lt k15xxx; omega)
  have n15xxxx : ¬ th_MR G Γ H31 b15 := fun w => n15xxx (th_MR_s u31 oq31 w)
  have k23xx := tm_MAo k23x oq31 (by have q9 := tm_lt k23x; omega)
  have n23xx : ¬ th_MR G Γ H31 b23 := fun w => n23x (th_MR_s u31 oq31 w)
  have hs : H31.size = H0.size + 4 := by omega
  have dd_b31_b7 : b7 ≠ b31 := by have q9 := lt_b7; omega
  have dd_b31_b15 : b15 ≠ b31 := by have q9 := lt_b15; omega
  have dd_b31_b23 : b23 ≠ b31 := by have q9 := lt_b23; omega
  have lt_b31 : b31 < H31.size := by omega
  have lt_b7 : b7 < H31.size := by omega
  have lt_b15 : b15 < H31.size := by omega
  have lt_b23 : b23 < H31.size := by omega
  have of_b31 : b31 = a0 + 4 := by omega
  refine tc_putF hC cf_X1 hB.1 ho (j := 3) (by decide) rfl hnm rfl rfl kf_X1_21 dX1_init_33 (fun H33 locs hB1 ho z33 oq33 => ?_)
  have hu := hB.1.2.2.2.2.1
  have hB := th_NR_s hB hB1 hu hB.2.2.1 (by omega) oq33
  have hIN := th_IN_s hIN hu oq33
  have k7xxxxxxx := tm_MAo k7xxxxxx oq33 (by have q9 := lb7; omega)
  have n7xxxxxxx : ¬ th_MR G Γ H33 b7 := fun w => n7xxxxxx (th_MR_s hu oq33 w)
  have k15xxxxx := tm_MAo k15xxxx oq33 (by have q9 := lb15; omega)
  have n15xxxxx : ¬ th_MR G Γ H33 b15 := fun w => n15xxxx (th_MR_s hu oq33 w)
  have k23xxx := tm_MAo k23xx oq33 (by have q9 := lb23; omega)
  have n23xxx : ¬ th_MR G Γ H33 b23 := fun w => n23xx (th_MR_s hu oq33 w)
  have k31x := tm_MAo k31 oq33 (by have q9 := lb31; omega)
  have n31x : ¬ th_MR G Γ H33 b31 := fun w => n31 (th_MR_s hu oq33 w)
  have hs : H33.size = H0.size + 4 := by omega
  have lt_b7 : b7 < H33.size := by omega
  have lt_b15 : b15 < H33.size := by omega
  have lt_b23 : b23 < H33.size := by omega
  have lt_b31 : b31 < H33.size := by omega
  refine lv_aload_n hx hb dX1_init_36 rfl (lv_at hl 0 rfl) ?_
  refine lv_bipush (v := 9) hx hb dX1_init_37 (by decide) ?_
  refine tc_newa (ty := .int) (t := 0) hC hB.1 rfl rfl rfl kw_104 (N := 9) tk_9 (by decide) (Nat.le_of_ble_eq_true rfl) (Nat.le_of_ble_eq_true rfl) dX1_init_39 (fun b39 H39 eb39 zb39 oq39 hB1 k39 => ?_)
  have u39 := k39.2.1
  have n390 : ¬ th_MR G Γ H33 b39 := fun w => absurd (th_MR_lt hB.2.1 w) (by omega)
  have hB := th_NR_s hB hB1 u39 n390 (by omega) oq39
  have hIN := th_IN_s hIN u39 oq39
  have n39 : ¬ th_MR G Γ H39 b39 := fun w => n390 (th_MR_s u39 oq39 w)
  have lb39 : H0.size ≤ b39 := by omega
  have ho := tc_OBo ho oq39 (by omega)
  have k7xxxxxxxx := tm_MAo k7xxxxxxx oq39 (by have q9 := tm_lt k7xxxxxxx; omega)
  have n7xxxxxxxx : ¬ th_MR G Γ H39 b7 := fun w => n7xxxxxxx (th_MR_s u39 oq39 w)
  have k15xxxxxx := tm_MAo k15xxxxx oq39 (by have q9 := tm_lt k15xxxxx; omega)
  have n15xxxxxx : ¬ th_MR G Γ H39 b15 := fun w => n15xxxxx (th_MR_s u39 oq39 w)
  have k23xxxx := tm_MAo k23xxx oq39 (by have q9 := tm_lt k23xxx; omega)
  have n23xxxx : ¬ th_MR G Γ H39 b23 := fun w => n23xxx (th_MR_s u39 oq39 w)
  have k31xx := tm_MAo k31x oq39 (by have q9 := tm_lt k31x; omega)
  have n31xx : ¬ th_MR G Γ H39 b31 := fun w => n31x (th_MR_s u39 oq39 w)
  have hs : H39.size = H0.size + 5 := by omega
  have dd_b39_b7 : b7 ≠ b39 := by have q9 := lt_b7; omega
  have dd_b39_b15 : b15 ≠ b39 := by have q9 := lt_b15; omega
  have dd_b39_b23 : b23 ≠ b39 := by have q9 := lt_b23; omega
  have dd_b39_b31 : b31 ≠ b39 := by have q9 := lt_b31; omega
  have lt_b39 : b39 < H39.size := by omega
  have lt_b7 : b7 < H39.size := by omega
  have lt_b15 : b15 < H39.size := by omega
  have lt_b23 : b23 < H39.size := by omega
  have lt_b31 : b31 < H39.size := by omega
  have of_b39 : b39 = a0 + 5 := by omega
  refine tc_putF hC cf_X1 hB.1 ho (j := 4) (by decide) rfl hnm rfl rfl kf_X1_24 dX1_init_41 (fun H41 locs hB1 ho z41 oq41 => ?_)
  have hu := hB.1.2.2.2.2.1
  have hB := th_NR_s hB hB1 hu hB.2.2.1 (by omega) oq41
  have hIN := th_IN_s hIN hu oq41
  have k7xxxxxxxxx := tm_MAo k7xxxxxxxx oq41 (by have q9 := lb7; omega)
  have n7xxxxxxxxx : ¬ th_MR G Γ H41 b7 := fun w => n7xxxxxxxx (th_MR_s hu oq41 w)
  have k15xxxxxxx := tm_MAo k15xxxxxx oq41 (by have q9 := lb15; omega)
  have n15xxxxxxx : ¬ th_MR G Γ H41 b15 := fun w => n15xxxxxx (th_MR_s hu oq41 w)
  have k23xxxxx := tm_MAo k23xxxx oq41 (by have q9 := lb23; omega)
  have n23xxxxx : ¬ th_MR G Γ H41 b23 := fun w => n23xxxx (th_MR_s hu oq41 w)
  have k31xxx := tm_MAo k31xx oq41 (by have q9 := lb31; omega)
  have n31xxx : ¬ th_MR G Γ H41 b31 := fun w => n31xx (th_MR_s hu oq41 w)
  have k39x := tm_MAo k39 oq41 (by have q9 := lb39; omega)
  have n39x : ¬ th_MR G Γ H41 b39 := fun w => n39 (th_MR_s hu oq41 w)
  have hs : H41.size = H0.size + 5 := by omega
  have lt_b7 : b7 < H41.size := by omega
  have lt_b15 : b15 < H41.size := by omega
  have lt_b23 : b23 < H41.size := by omega
  have lt_b31 : b31 < H41.size := by omega
  have lt_b39 : b39 < H41.size := by omega
  refine lv_aload_n hx hb dX1_init_44 rfl (lv_at hl 0 rfl) ?_
  refine lv_iconst (v := 3) hx hb dX1_init_45 (by decide) ?_
  refine tc_newa (ty := .int) (t := 0) hC hB.1 rfl rfl rfl kw_104 (N := 3) tk_3 (by decide) (Nat.le_of_ble_eq_true rfl) (Nat.le_of_ble_eq_true rfl) dX1_init_46 (fun b46 H46 eb46 zb46 oq46 hB1 k46 => ?_)
  have u46 := k46.2.1
  have n460 : ¬ th_MR G Γ H41 b46 := fun w => absurd (th_MR_lt hB.2.1 w) (by omega)
  have hB := th_NR_s hB hB1 u46 n460 (by omega) oq46
  have hIN := th_IN_s hIN u46 oq46
  have n46 : ¬ th_MR G Γ H46 b46 := fun w => n460 (th_MR_s u46 oq46 w)
  have lb46 : H0.size ≤ b46 := by omega
  have ho := tc_OBo ho oq46 (by omega)
  have k7xxxxxxxxxx := tm_MAo k7xxxxxxxxx oq46 (by have q9 := tm_lt k7xxxxxxxxx; omega)
  have n7xxxxxxxxxx : ¬ th_MR G Γ H46 b7 := fun w => n7xxxxxxxxx (th_MR_s u46 oq46 w)
  have k15xxxxxxxx := tm_MAo k15xxxxxxx oq46 (by have q9 := tm_lt k15xxxxxxx; omega)
  have n15xxxxxxxx : ¬ th_MR G Γ H46 b15 := fun w => n15xxxxxxx (th_MR_s u46 oq46 w)
  have k23xxxxxx := tm_MAo k23xxxxx oq46 (by have q9 := tm_lt k23xxxxx; omega)
  have n23xxxxxx : ¬ th_MR G Γ H46 b23 := fun w => n23xxxxx (th_MR_s u46 oq46 w)
  have k31xxxx := tm_MAo k31xxx oq46 (by have q9 := tm_lt k31xxx; omega)
  have n31xxxx : ¬ th_MR G Γ H46 b31 := fun w => n31xxx (th_MR_s u46 oq46 w)
  have k39xx := tm_MAo k39x oq46 (by have q9 := tm_lt k39x; omega)
  have n39xx : ¬ th_MR G Γ H46 b39 := fun w => n39x (th_MR_s u46 oq46 w)
  have hs : H46.size = H0.size + 6 := by omega
  have dd_b46_b7 : b7 ≠ b46 := by have q9 := lt_b7; omega
  have dd_b46_b15 : b15 ≠ b46 := by have q9 := lt_b15; omega
  have dd_b46_b23 : b23 ≠ b46 := by have q9 := lt_b23; omega
  have dd_b46_b31 : b31 ≠ b46 := by have q9 := lt_b31; omega
  have dd_b46_b39 : b39 ≠ b46 := by have q9 := lt_b39; omega
  have lt_b46 : b46 < H46.size := by omega
  have lt_b7 : b7 < H46.size := by omega
  have lt_b15 : b15 < H46.size := by omega
  have lt_b23 : b23 < H46.size := by omega
  have lt_b31 : b31 < H46.size := by omega
  have lt_b39 : b39 < H46.size := by omega
  have of_b46 : b46 = a0 + 6 := by omega
  refine tc_putF hC cf_X1 hB.1 ho (j := 5) (by decide) rfl hnm rfl rfl kf_X1_27 dX1_init_48 (fun H48 locs hB1 ho z48 oq48 => ?_)
  have hu := hB.1.2.2.2.2.1
  have hB := th_NR_s hB hB1 hu hB.2.2.1 (by omega) oq48
  have hIN := th_IN_s hIN hu oq48
  have k7xxxxxxxxxxx := tm_MAo k7xxxxxxxxxx oq48 (by have q9 := lb7; omega)
  have n7xxxxxxxxxxx : ¬ th_MR G Γ H48 b7 := fun w => n7xxxxxxxxxx (th_MR_s hu oq48 w)
  have k15xxxxxxxxx := tm_MAo k15xxxxxxxx oq48 (by have q9 := lb15; omega)
  have n15xxxxxxxxx : ¬ th_MR G Γ H48 b15 := fun w => n15xxxxxxxx (th_MR_s hu oq48 w)
  have k23xxxxxxx := tm_MAo k23xxxxxx oq48 (by have q9 := lb23; omega)
  have n23xxxxxxx : ¬ th_MR G Γ H48 b23 := fun w => n23xxxxxx (th_MR_s hu oq48 w)
  have k31xxxxx := tm_MAo k31xxxx oq48 (by have q9 := lb31; omega)
  have n31xxxxx : ¬ th_MR G Γ H48 b31 := fun w => n31xxxx (th_MR_s hu oq48 w)
  have k39xxx := tm_MAo k39xx oq48 (by have q9 := lb39; omega)
  have n39xxx : ¬ th_MR G Γ H48 b39 := fun w => n39xx (th_MR_s hu oq48 w)
  have k46x := tm_MAo k46 oq48 (by have q9 := lb46; omega)
  have n46x : ¬ th_MR G Γ H48 b46 := fun w => n46 (th_MR_s hu oq48 w)
  have hs : H48.size = H0.size + 6 := by omega
  have lt_b7 : b7 < H48.size := by omega
  have lt_b15 : b15 < H48.size := by omega
  have lt_b23 : b23 < H48.size := by omega
  have lt_b31 : b31 < H48.size := by omega
  have lt_b39 : b39 < H48.size := by omega
  have lt_b46 : b46 < H48.size := by omega
  refine lv_aload_n hx hb dX1_init_51 rfl (lv_at hl 0 rfl) ?_
  refine lv_bipush (v := 12) hx hb dX1_init_52 (by decide) ?_
  refine tc_newa (ty := .int) (t := 0) hC hB.1 rfl rfl rfl kw_104 (N := 12) tk_12 (by decide) (Nat.le_of_ble_eq_true rfl) (Nat.le_of_ble_eq_true rfl) dX1_init_54 (fun b54 H54 eb54 zb54 oq54 hB1 k54 => ?_)
  have u54 := k54.2.1
  have n540 : ¬ th_MR G Γ H48 b54 := fun w => absurd (th_MR_lt hB.2.1 w) (by omega)
  have hB := th_NR_s hB hB1 u54 n540 (by omega) oq54
  have hIN := th_IN_s hIN u54 oq54
  have n54 : ¬ th_MR G Γ H54 b54 := fun w => n540 (th_MR_s u54 oq54 w)
  have lb54 : H0.size ≤ b54 := by omega
  have ho := tc_OBo ho oq54 (by omega)
  have k7xxxxxxxxxxxx := tm_MAo k7xxxxxxxxxxx oq54 (by have q9 := tm_lt k7xxxxxxxxxxx; omega)
  have n7xxxxxxxxxxxx : ¬ th_MR G Γ H54 b7 := fun w => n7xxxxxxxxxxx (th_MR_s u54 oq54 w)
  have k15xxxxxxxxxx := tm_MAo k15xxxxxxxxx oq54 (by have q9 := tm_lt k15xxxxxxxxx; omega)
  have n15xxxxxxxxxx : ¬ th_MR G Γ H54 b15 := fun w => n15xxxxxxxxx (th_MR_s u54 oq54 w)
  have k23xxxxxxxx := tm_MAo k23xxxxxxx oq54 (by have q9 := tm_lt k23xxxxxxx; omega)
  have n23xxxxxxxx : ¬ th_MR G Γ H54 b23 := fun w => n23xxxxxxx (th_MR_s u54 oq54 w)
  have k31xxxxxx := tm_MAo k31xxxxx oq54 (by have q9 := tm_lt k31xxxxx; omega)
  have n31xxxxxx : ¬ th_MR G Γ H54 b31 := fun w => n31xxxxx (th_MR_s u54 oq54 w)
  have k39xxxx := tm_MAo k39xxx oq54 (by have q9 := tm_lt k39xxx; omega)
  have n39xxxx : ¬ th_MR G Γ H54 b39 := fun w => n39xxx (th_MR_s u54 oq54 w)
  have k46xx := tm_MAo k46x oq54 (by have q9 := tm_lt k46x; omega)
  have n46xx : ¬ th_MR G Γ H54 b46 := fun w => n46x (th_MR_s u54 oq54 w)
  have hs : H54.size = H0.size + 7 := by omega
  have dd_b54_b7 : b7 ≠ b54 := by have q9 := lt_b7; omega
  have dd_b54_b15 : b15 ≠ b54 := by have q9 := lt_b15; omega
  have dd_b54_b23 : b23 ≠ b54 := by have q9 := lt_b23; omega
  have dd_b54_b31 : b31 ≠ b54 := by have q9 := lt_b31; omega
  have dd_b54_b39 : b39 ≠ b54 := by have q9 := lt_b39; omega
  have dd_b54_b46 : b46 ≠ b54 := by have q9 := lt_b46; omega
  have lt_b54 : b54 < H54.size := by omega
  have lt_b7 : b7 < H54.size := by omega
  have lt_b15 : b15 < H54.size := by omega
  have lt_b23 : b23 < H54.size := by omega
  have lt_b31 : b31 < H54.size := by omega
  have lt_b39 : b39 < H54.size := by omega
  have lt_b46 : b46 < H54.size := by omega
  have of_b54 : b54 = a0 + 7 := by omega
  refine tc_putF hC cf_X1 hB.1 ho (j := 6) (by decide) rfl hnm rfl rfl kf_X1_30 dX1_init_56 (fun H56 locs hB1 ho z56 oq56 => ?_)
  have hu := hB.1.2.2.2.2.1
  have hB := th_NR_s hB hB1 hu hB.2.2.1 (by omega) oq56
  have hIN := th_IN_s hIN hu oq56
  have k7xxxxxxxxxxxxx := tm_MAo k7xxxxxxxxxxxx oq56 (by have q9 := lb7; omega)
  have n7xxxxxxxxxxxxx : ¬ th_MR G Γ H56 b7 := fun w => n7xxxxxxxxxxxx (th_MR_s hu oq56 w)
  have k15xxxxxxxxxxx := tm_MAo k15xxxxxxxxxx oq56 (by have q9 := lb15; omega)
  have n15xxxxxxxxxxx : ¬ th_MR G Γ H56 b15 := fun w => n15xxxxxxxxxx (th_MR_s hu oq56 w)
  have k23xxxxxxxxx := tm_MAo k23xxxxxxxx oq56 (by have q9 := lb23; omega)
  have n23xxxxxxxxx : ¬ th_MR G Γ H56 b23 := fun w => n23xxxxxxxx (th_MR_s hu oq56 w)
  have k31xxxxxxx := tm_MAo k31xxxxxx oq56 (by have q9 := lb31; omega)
  have n31xxxxxxx : ¬ th_MR G Γ H56 b31 := fun w => n31xxxxxx (th_MR_s hu oq56 w)
  have k39xxxxx := tm_MAo k39xxxx oq56 (by have q9 := lb39; omega)
  have n39xxxxx : ¬ th_MR G Γ H56 b39 := fun w => n39xxxx (th_MR_s hu oq56 w)
  have k46xxx := tm_MAo k46xx oq56 (by have q9 := lb46; omega)
  have n46xxx : ¬ th_MR G Γ H56 b46 := fun w => n46xx (th_MR_s hu oq56 w)
  have k54x := tm_MAo k54 oq56 (by have q9 := lb54; omega)
  have n54x : ¬ th_MR G Γ H56 b54 := fun w => n54 (th_MR_s hu oq56 w)
  have hs : H56.size = H0.size + 7 := by omega
  have lt_b7 : b7 < H56.size := by omega
  have lt_b15 : b15 < H56.size := by omega
  have lt_b23 : b23 < H56.size := by omega
  have lt_b31 : b31 < H56.size := by omega
  have lt_b39 : b39 < H56.size := by omega
  have lt_b46 : b46 < H56.size := by omega
  have lt_b54 : b54 < H56.size := by omega
  refine lv_aload_n hx hb dX1_init_59 rfl (lv_at hl 0 rfl) ?_
  refine lv_iconst (v := 0) hx hb dX1_init_60 (by decide) ?_
  refine tc_put hC cf_X1 hB.1 ho (j := 7) (by decide) rfl rfl rfl kf_X1_33 dX1_init_61 (fun H61 locs hB1 ho z61 oq61 => ?_)
  have hu := hB.1.2.2.2.2.1
  have hB := th_NR_s hB hB1 hu hB.2.2.1 (by omega) oq61
  have hIN := th_IN_s hIN hu oq61
  have k7xxxxxxxxxxxxxx := tm_MAo k7xxxxxxxxxxxxx oq61 (by have q9 := lb7; omega)
  have n7xxxxxxxxxxxxxx : ¬ th_MR G Γ H61 b7 := fun w => n7xxxxxxxxxxxxx (th_MR_s hu oq61 w)
  have k15xxxxxxxxxxxx := tm_MAo k15xxxxxxxxxxx oq61 (by have q9 := lb15; omega)
  have n15xxxxxxxxxxxx : ¬ th_MR G Γ H61 b15 := fun w => n15xxxxxxxxxxx (th_MR_s hu oq61 w)
  have k23xxxxxxxxxx := tm_MAo k23xxxxxxxxx oq61 (by have q9 := lb23; omega)
  have n23xxxxxxxxxx : ¬ th_MR G Γ H61 b23 := fun w => n23xxxxxxxxx (th_MR_s hu oq61 w)
  have k31xxxxxxxx := tm_MAo k31xxxxxxx oq61 (by have q9 := lb31; omega)
  have n31xxxxxxxx : ¬ th_MR G Γ H61 b31 := fun w => n31xxxxxxx (th_MR_s hu oq61 w)
  have k39xxxxxx := tm_MAo k39xxxxx oq61 (by have q9 := lb39; omega)
  have n39xxxxxx : ¬ th_MR G Γ H61 b39 := fun w => n39xxxxx (th_MR_s hu oq61 w)
  have k46xxxx := tm_MAo k46xxx oq61 (by have q9 := lb46; omega)
  have n46xxxx : ¬ th_MR G Γ H61 b46 := fun w => n46xxx (th_MR_s hu oq61 w)
  have k54xx := tm_MAo k54x oq61 (by have q9 := lb54; omega)
  have n54xx : ¬ th_MR G Γ H61 b54 := fun w => n54x (th_MR_s hu oq61 w)
  have hs : H61.size = H0.size + 7 := by omega
  have lt_b7 : b7 < H61.size := by omega
  have lt_b15 : b15 < H61.size := by omega
  have lt_b23 : b23 < H61.size := by omega
  have lt_b31 : b31 < H61.size := by omega
  have lt_b39 : b39 < H61.size := by omega
  have lt_b46 : b46 < H61.size := by omega
  have lt_b54 : b54 < H61.size := by omega
  refine lv_aload_n hx hb dX1_init_64 rfl (lv_at hl 0 rfl) ?_
  refine lv_bipush (v := 8) hx hb dX1_init_65 (by decide) ?_
  refine tc_put hC cf_X1 hB.1 ho (j := 8) (by decide) rfl rfl rfl kf_X1_37 dX1_init_67 (fun H67 locs hB1 ho z67 oq67 => ?_)
  have hu := hB.1.2.2.2.2.1
  have hB := th_NR_s hB hB1 hu hB.2.2.1 (by omega) oq67
  have hIN := th_IN_s hIN hu oq67
  have k7xxxxxxxxxxxxxxx := tm_MAo k7xxxxxxxxxxxxxx oq67 (by have q9 := lb7; omega)
  have n7xxxxxxxxxxxxxxx : ¬ th_MR G Γ H67 b7 := fun w => n7xxxxxxxxxxxxxx (th_MR_s hu oq67 w)
  have k15xxxxxxxxxxxxx := tm_MAo k15xxxxxxxxxxxx oq67 (by have q9 := lb15; omega)
  have n15xxxxxxxxxxxxx : ¬ th_MR G Γ H67 b15 := fun w => n15xxxxxxxxxxxx (th_MR_s hu oq67 w)
  have k23xxxxxxxxxxx := tm_MAo k23xxxxxxxxxx oq67 (by have q9 := lb23; omega)
  have n23xxxxxxxxxxx : ¬ th_MR G Γ H67 b23 := fun w => n23xxxxxxxxxx (th_MR_s hu oq67 w)
  have k31xxxxxxxxx := tm_MAo k31xxxxxxxx oq67 (by have q9 := lb31; omega)
  have n31xxxxxxxxx : ¬ th_MR G Γ H67 b31 := fun w => n31xxxxxxxx (th_MR_s hu oq67 w)
  have k39xxxxxxx := tm_MAo k39xxxxxx oq67 (by have q9 := lb39; omega)
  have n39xxxxxxx : ¬ th_MR G Γ H67 b39 := fun w => n39xxxxxx (th_MR_s hu oq67 w)
  have k46xxxxx := tm_MAo k46xxxx oq67 (by have q9 := lb46; omega)
  have n46xxxxx : ¬ th_MR G Γ H67 b46 := fun w => n46xxxx (th_MR_s hu oq67 w)
  have k54xxx := tm_MAo k54xx oq67 (by have q9 := lb54; omega)
  have n54xxx : ¬ th_MR G Γ H67 b54 := fun w => n54xx (th_MR_s hu oq67 w)
  have hs : H67.size = H0.size + 7 := by omega
  have lt_b7 : b7 < H67.size := by omega
  have lt_b15 : b15 < H67.size := by omega
  have lt_b23 : b23 < H67.size := by omega
  have lt_b31 : b31 < H67.size := by omega
  have lt_b39 : b39 < H67.size := by omega
  have lt_b46 : b46 < H67.size := by omega
  have lt_b54 : b54 < H67.size := by omega
  refine lv_aload_n hx hb dX1_init_70 rfl (lv_at hl 0 rfl) ?_
  refine lv_bipush (v := 8) hx hb dX1_init_71 (by decide) ?_
  refine tc_put hC cf_X1 hB.1 ho (j := 9) (by decide) rfl rfl rfl kf_X1_40 dX1_init_73 (fun H73 locs hB1 ho z73 oq73 => ?_)
  have hu := hB.1.2.2.2.2.1
  have hB := th_NR_s hB hB1 hu hB.2.2.1 (by omega) oq73
  have hIN := th_IN_s hIN hu oq73
  have k7xxxxxxxxxxxxxxxx := tm_MAo k7xxxxxxxxxxxxxxx oq73 (by have q9 := lb7; omega)
  have n7xxxxxxxxxxxxxxxx : ¬ th_MR G Γ H73 b7 := fun w => n7xxxxxxxxxxxxxxx (th_MR_s hu oq73 w)
  have k15xxxxxxxxxxxxxx := tm_MAo k15xxxxxxxxxxxxx oq73 (by have q9 := lb15; omega)
  have n15xxxxxxxxxxxxxx : ¬ th_MR G Γ H73 b15 := fun w => n15xxxxxxxxxxxxx (th_MR_s hu oq73 w)
  have k23xxxxxxxxxxxx := tm_MAo k23xxxxxxxxxxx oq73 (by have q9 := lb23; omega)
  have n23xxxxxxxxxxxx : ¬ th_MR G Γ H73 b23 := fun w => n23xxxxxxxxxxx (th_MR_s hu oq73 w)
  have k31xxxxxxxxxx := tm_MAo k31xxxxxxxxx oq73 (by have q9 := lb31; omega)
  have n31xxxxxxxxxx : ¬ th_MR G Γ H73 b31 := fun w => n31xxxxxxxxx (th_MR_s hu oq73 w)
  have k39xxxxxxxx := tm_MAo k39xxxxxxx oq73 (by have q9 := lb39; omega)
  have n39xxxxxxxx : ¬ th_MR G Γ H73 b39 := fun w => n39xxxxxxx (th_MR_s hu oq73 w)
  have k46xxxxxx := tm_MAo k46xxxxx oq73 (by have q9 := lb46; omega)
  have n46xxxxxx : ¬ th_MR G Γ H73 b46 := fun w => n46xxxxx (th_MR_s hu oq73 w)
  have k54xxxx := tm_MAo k54xxx oq73 (by have q9 := lb54; omega)
  have n54xxxx : ¬ th_MR G Γ H73 b54 := fun w => n54xxx (th_MR_s hu oq73 w)
  have hs : H73.size = H0.size + 7 := by omega
  have lt_b7 : b7 < H73.size := by omega
  have lt_b15 : b15 < H73.size := by omega
  have lt_b23 : b23 < H73.size := by omega
  have lt_b31 : b31 < H73.size := by omega
  have lt_b39 : b39 < H73.size := by omega
  have lt_b46 : b46 < H73.size := by omega
  have lt_b54 : b54 < H73.size := by omega
  refine lv_aload_n hx hb dX1_init_76 rfl (lv_at hl 0 rfl) ?_
  refine lv_iconst (v := 0) hx hb dX1_init_77 (by decide) ?_
  refine tc_put hC cf_X1 hB.1 ho (j := 10) (by decide) rfl rfl rfl kf_X1_43 dX1_init_78 (fun H78 locs hB1 ho z78 oq78 => ?_)
  have hu := hB.1.2.2.2.2.1
  have hB := th_NR_s hB hB1 hu hB.2.2.1 (by omega) oq78
  have hIN := th_IN_s hIN hu oq78
  have k7xxxxxxxxxxxxxxxxx := tm_MAo k7xxxxxxxxxxxxxxxx oq78 (by have q9 := lb7; omega)
  have n7xxxxxxxxxxxxxxxxx : ¬ th_MR G Γ H78 b7 := fun w => n7xxxxxxxxxxxxxxxx (th_MR_s hu oq78 w)
  have k15xxxxxxxxxxxxxxx := tm_MAo k15xxxxxxxxxxxxxx oq78 (by have q9 := lb15; omega)
  have n15xxxxxxxxxxxxxxx : ¬ th_MR G Γ H78 b15 := fun w => n15xxxxxxxxxxxxxx (th_MR_s hu oq78 w)
  have k23xxxxxxxxxxxxx := tm_MAo k23xxxxxxxxxxxx oq78 (by have q9 := lb23; omega)
  have n23xxxxxxxxxxxxx : ¬ th_MR G Γ H78 b23 := fun w => n23xxxxxxxxxxxx (th_MR_s hu oq78 w)
  have k31xxxxxxxxxxx := tm_MAo k31xxxxxxxxxx oq78 (by have q9 := lb31; omega)
  have n31xxxxxxxxxxx : ¬ th_MR G Γ H78 b31 := fun w => n31xxxxxxxxxx (th_MR_s hu oq78 w)
  have k39xxxxxxxxx := tm_MAo k39xxxxxxxx oq78 (by have q9 := lb39; omega)
  have n39xxxxxxxxx : ¬ th_MR G Γ H78 b39 := fun w => n39xxxxxxxx (th_MR_s hu oq78 w)
  have k46xxxxxxx := tm_MAo k46xxxxxx oq78 (by have q9 := lb46; omega)
  have n46xxxxxxx : ¬ th_MR G Γ H78 b46 := fun w => n46xxxxxx (th_MR_s hu oq78 w)
  have k54xxxxx := tm_MAo k54xxxx oq78 (by have q9 := lb54; omega)
  have n54xxxxx : ¬ th_MR G Γ H78 b54 := fun w => n54xxxx (th_MR_s hu oq78 w)
  have hs : H78.size = H0.size + 7 := by omega
  have lt_b7 : b7 < H78.size := by omega
  have lt_b15 : b15 < H78.size := by omega
  have lt_b23 : b23 < H78.size := by omega
  have lt_b31 : b31 < H78.size := by omega
  have lt_b39 : b39 < H78.size := by omega
  have lt_b46 : b46 < H78.size := by omega
  have lt_b54 : b54 < H78.size := by omega
  refine lv_aload_n hx hb dX1_init_81 rfl (lv_at hl 0 rfl) ?_
  refine tc_get hC cf_X1 ho (j := 5) (by decide) rfl kf_X1_27 dX1_init_82 ?_
  refine lv_iconst (v := 1) hx hb dX1_init_85 (by decide) ?_
  refine lv_iconst (v := 1) hx hb dX1_init_86 (by decide) ?_
  refine tc_iast (x := 1) hC hB.1 k46xxxxxxx lb46 tk_1 (by decide) (by decide) dX1_init_87 (fun H87 locs hB1 kq z87 oq87 => ?_)
  have hq := k46xxxxxxx.2.1
  have hB := th_NR_s hB hB1 hq n46xxxxxxx (by omega) oq87
  have hIN := th_IN_s hIN hq oq87
  have n46xxxxxxxx : ¬ th_MR G Γ H87 b46 := fun w => n46xxxxxxx (th_MR_s hq oq87 w)
  have ho := tc_OBo ho oq87 (by have q9 := lb46; omega)
  have k7xxxxxxxxxxxxxxxxxx := tm_MAo k7xxxxxxxxxxxxxxxxx oq87 (fun e => dd_b46_b7 e)
  have n7xxxxxxxxxxxxxxxxxx : ¬ th_MR G Γ H87 b7 := fun w => n7xxxxxxxxxxxxxxxxx (th_MR_s hq oq87 w)
  have k15xxxxxxxxxxxxxxxx := tm_MAo k15xxxxxxxxxxxxxxx oq87 (fun e => dd_b46_b15 e)
  have n15xxxxxxxxxxxxxxxx : ¬ th_MR G Γ H87 b15 := fun w => n15xxxxxxxxxxxxxxx (th_MR_s hq oq87 w)
  have k23xxxxxxxxxxxxxx := tm_MAo k23xxxxxxxxxxxxx oq87 (fun e => dd_b46_b23 e)
  have n23xxxxxxxxxxxxxx : ¬ th_MR G Γ H87 b23 := fun w => n23xxxxxxxxxxxxx (th_MR_s hq oq87 w)
  have k31xxxxxxxxxxxx := tm_MAo k31xxxxxxxxxxx oq87 (fun e => dd_b46_b31 e)
  have n31xxxxxxxxxxxx : ¬ th_MR G Γ H87 b31 := fun w => n31xxxxxxxxxxx (th_MR_s hq oq87 w)
  have k39xxxxxxxxxx := tm_MAo k39xxxxxxxxx oq87 (fun e => dd_b46_b39 e)
  have n39xxxxxxxxxx : ¬ th_MR G Γ H87 b39 := fun w => n39xxxxxxxxx (th_MR_s hq oq87 w)
  have k54xxxxxx := tm_MAo k54xxxxx oq87 (fun e => dd_b54_b46 e.symm)
  have n54xxxxxx : ¬ th_MR G Γ H87 b54 := fun w => n54xxxxx (th_MR_s hq oq87 w)
  have kz87 := kq
  have hs : H87.size = H0.size + 7 := by omega
  have lt_b7 : b7 < H87.size := by omega
  have lt_b15 : b15 < H87.size := by omega
  have lt_b23 : b23 < H87.size := by omega
  have lt_b31 : b31 < H87.size := by omega
  have lt_b39 : b39 < H87.size := by omega
  have lt_b46 : b46 < H87.size := by omega
  have lt_b54 : b54 < H87.size := by omega
  have hI1 := hB.1.1
  have hR1 := hB.2.1
  have hI2 := th_nmA (r := 4) (o := a0) hI1 k7xxxxxxxxxxxxxxxxxx ro_4 (Nat.le_refl _) (Nat.le_refl _) (fun i _ => th_sI (x := 0) (by decide) (by decide))
  have hR1 := th_RC_up hI1 hR1 (x := (4, a0)) k7xxxxxxxxxxxxxxxxxx.2.1 n7xxxxxxxxxxxxxxxxxx hI2 (fun e => absurd (show (4 : Nat) = 3 from e) (by decide)) (fun e => absurd (show (4 : Nat) = 18 ∨ (4 : Nat) = 19 from e) (by decide)) (show (4 : Nat) ≠ 12 by decide)
  have hI1 := hI2
  have hIN := th_IN_up (b := b7) (x := (4, a0)) hIN (ini_r rfl rfl rfl rfl (fun i hi => th_sl_at k7xxxxxxxxxxxxxxxxxx.2.2 (arrV_read _ _ hi)))
  have ho := th_OB_up (b := b7) (x := (4, a0)) ho (by have q9 := lb7; omega)
  have k15xxxxxxxxxxxxxxxxu := th_MA_up (b := b7) (x := (4, a0)) k15xxxxxxxxxxxxxxxx (fun e => dd_b15_b7 e.symm)
  have n15xxxxxxxxxxxxxxxxu : ¬ th_MR G (th_up Γ b7 (4, a0)) H87 b15 := fun w => n15xxxxxxxxxxxxxxxx (th_MR_up (show (4 : Nat) ≠ 12 by decide) w)
  have k23xxxxxxxxxxxxxxu := th_MA_up (b := b7) (x := (4, a0)) k23xxxxxxxxxxxxxx (fun e => dd_b23_b7 e.symm)
  have n23xxxxxxxxxxxxxxu : ¬ th_MR G (th_up Γ b7 (4, a0)) H87 b23 := fun w => n23xxxxxxxxxxxxxx (th_MR_up (show (4 : Nat) ≠ 12 by decide) w)
  have k31xxxxxxxxxxxxu := th_MA_up (b := b7) (x := (4, a0)) k31xxxxxxxxxxxx (fun e => dd_b31_b7 e.symm)
  have n31xxxxxxxxxxxxu : ¬ th_MR G (th_up Γ b7 (4, a0)) H87 b31 := fun w => n31xxxxxxxxxxxx (th_MR_up (show (4 : Nat) ≠ 12 by decide) w)
  have k39xxxxxxxxxxu := th_MA_up (b := b7) (x := (4, a0)) k39xxxxxxxxxx (fun e => dd_b39_b7 e.symm)
  have n39xxxxxxxxxxu : ¬ th_MR G (th_up Γ b7 (4, a0)) H87 b39 := fun w => n39xxxxxxxxxx (th_MR_up (show (4 : Nat) ≠ 12 by decide) w)
  have kz87u := th_MA_up (b := b7) (x := (4, a0)) kz87 (fun e => dd_b46_b7 e.symm)
  have n46xxxxxxxxu : ¬ th_MR G (th_up Γ b7 (4, a0)) H87 b46 := fun w => n46xxxxxxxx (th_MR_up (show (4 : Nat) ≠ 12 by decide) w)
  have k54xxxxxxu := th_MA_up (b := b7) (x := (4, a0)) k54xxxxxx (fun e => dd_b54_b7 e.symm)
  have n54xxxxxxu : ¬ th_MR G (th_up Γ b7 (4, a0)) H87 b54 := fun w => n54xxxxxx (th_MR_up (show (4 : Nat) ≠ 12 by decide) w)
  have hI2 := th_nmA (r := 5) (o := a0) hI1 k15xxxxxxxxxxxxxxxxu ro_5 (Nat.le_refl _) (Nat.le_refl _) (fun i _ => th_sI (x := 0) (by decide) (by decide))
  have hR1 := th_RC_up hI1 hR1 (x := (5, a0)) k15xxxxxxxxxxxxxxxxu.2.1 n15xxxxxxxxxxxxxxxxu hI2 (fun e => absurd (show (5 : Nat) = 3 from e) (by decide)) (fun e => absurd (show (5 : Nat) = 18 ∨ (5 : Nat) = 19 from e) (by decide)) (show (5 : Nat) ≠ 12 by decide)
  have hI1 := hI2
  have hIN := th_IN_up (b := b15) (x := (5, a0)) hIN (ini_r rfl rfl rfl rfl (fun i hi => th_sl_at k15xxxxxxxxxxxxxxxx.2.2 (arrV_read _ _ hi)))
  have ho := th_OB_up (b := b15) (x := (5, a0)) ho (by have q9 := lb15; omega)
  have k23xxxxxxxxxxxxxxuu := th_MA_up (b := b15) (x := (5, a0)) k23xxxxxxxxxxxxxxu (fun e => dd_b23_b15 e.symm)
  have n23xxxxxxxxxxxxxxuu : ¬ th_MR G (th_up (th_up Γ b7 (4, a0)) b15 (5, a0)) H87 b23 := fun w => n23xxxxxxxxxxxxxxu (th_MR_up (show (5 : Nat) ≠ 12 by decide) w)
  have k31xxxxxxxxxxxxuu := th_MA_up (b := b15) (x := (5, a0)) k31xxxxxxxxxxxxu (fun e => dd_b31_b15 e.symm)
  have n31xxxxxxxxxxxxuu : ¬ th_MR G (th_up (th_up Γ b7 (4, a0)) b15 (5, a0)) H87 b31 := fun w => n31xxxxxxxxxxxxu (th_MR_up (show (5 : Nat) ≠ 12 by decide) w)
  have k39xxxxxxxxxxuu := th_MA_up (b := b15) (x := (5, a0)) k39xxxxxxxxxxu (fun e => dd_b39_b15 e.symm)
  have n39xxxxxxxxxxuu : ¬ th_MR G (th_up (th_up Γ b7 (4, a0)) b15 (5, a0)) H87 b39 := fun w => n39xxxxxxxxxxu (th_MR_up (show (5 : Nat) ≠ 12 by decide) w)
  have kz87uu := th_MA_up (b := b15) (x := (5, a0)) kz87u (fun e => dd_b46_b15 e.symm)
  have n46xxxxxxxxuu : ¬ th_MR G (th_up (th_up Γ b7 (4, a0)) b15 (5, a0)) H87 b46 := fun w => n46xxxxxxxxu (th_MR_up (show (5 : Nat) ≠ 12 by decide) w)
  have k54xxxxxxuu := th_MA_up (b := b15) (x := (5, a0)) k54xxxxxxu (fun e => dd_b54_b15 e.symm)
  have n54xxxxxxuu : ¬ th_MR G (th_up (th_up Γ b7 (4, a0)) b15 (5, a0)) H87 b54 := fun w => n54xxxxxxu (th_MR_up (show (5 : Nat) ≠ 12 by decide) w)
  have hI2 := th_nmA (r := 6) (o := a0) hI1 k23xxxxxxxxxxxxxxuu ro_6 (Nat.le_refl _) (Nat.le_refl _) (fun i _ => th_sI (x := 0) (by decide) (by decide))
  have hR1 := th_RC_up hI1 hR1 (x := (6, a0)) k23xxxxxxxxxxxxxxuu.2.1 n23xxxxxxxxxxxxxxuu hI2 (fun e => absurd (show (6 : Nat) = 3 from e) (by decide)) (fun e => absurd (show (6 : Nat) = 18 ∨ (6 : Nat) = 19 from e) (by decide)) (show (6 : Nat) ≠ 12 by decide)
  have hI1 := hI2
  have hIN := th_IN_up (b := b23) (x := (6, a0)) hIN (ini_r rfl rfl rfl rfl (fun i hi => th_sl_at k23xxxxxxxxxxxxxx.2.2 (arrV_read _ _ hi)))
  have ho := th_OB_up (b := b23) (x := (6, a0)) ho (by have q9 := lb23; omega)
  have k31xxxxxxxxxxxxuuu := th_MA_up (b := b23) (x := (6, a0)) k31xxxxxxxxxxxxuu (fun e => dd_b31_b23 e.symm)
  have n31xxxxxxxxxxxxuuu : ¬ th_MR G (th_up (th_up (th_up Γ b7 (4, a0)) b15 (5, a0)) b23 (6, a0)) H87 b31 := fun w => n31xxxxxxxxxxxxuu (th_MR_up (show (6 : Nat) ≠ 12 by decide) w)
  have k39xxxxxxxxxxuuu := th_MA_up (b := b23) (x := (6, a0)) k39xxxxxxxxxxuu (fun e => dd_b39_b23 e.symm)
  have n39xxxxxxxxxxuuu : ¬ th_MR G (th_up (th_up (th_up Γ b7 (4, a0)) b15 (5, a0)) b23 (6, a0)) H87 b39 := fun w => n39xxxxxxxxxxuu (th_MR_up (show (6 : Nat) ≠ 12 by decide) w)
  have kz87uuu := th_MA_up (b := b23) (x := (6, a0)) kz87uu (fun e => dd_b46_b23 e.symm)
  have n46xxxxxxxxuuu : ¬ th_MR G (th_up (th_up (th_up Γ b7 (4, a0)) b15 (5, a0)) b23 (6, a0)) H87 b46 := fun w => n46xxxxxxxxuu (th_MR_up (show (6 : Nat) ≠ 12 by decide) w)
  have k54xxxxxxuuu := th_MA_up (b := b23) (x := (6, a0)) k54xxxxxxuu (fun e => dd_b54_b23 e.symm)
  have n54xxxxxxuuu : ¬ th_MR G (th_up (th_up (th_up Γ b7 (4, a0)) b15 (5, a0)) b23 (6, a0)) H87 b54 := fun w => n54xxxxxxuu (th_MR_up (show (6 : Nat) ≠ 12 by decide) w)
  have hI2 := th_nmA (r := 7) (o := a0) hI1 k31xxxxxxxxxxxxuuu ro_7 (Nat.le_refl _) (Nat.le_refl _) (fun i _ => th_sI (x := 0) (by decide) (by decide))
  have hR1 := th_RC_up hI1 hR1 (x := (7, a0)) k31xxxxxxxxxxxxuuu.2.1 n31xxxxxxxxxxxxuuu hI2 (fun e => absurd (show (7 : Nat) = 3 from e) (by decide)) (fun e => absurd (show (7 : Nat) = 18 ∨ (7 : Nat) = 19 from e) (by decide)) (show (7 : Nat) ≠ 12 by decide)
  have hI1 := hI2
  have hIN := th_IN_up (b := b31) (x := (7, a0)) hIN (ini_r rfl rfl rfl rfl (fun i hi => th_sl_at k31xxxxxxxxxxxx.2.2 (arrV_read _ _ hi)))
  have ho := th_OB_up (b := b31) (x := (7, a0)) ho (by have q9 := lb31; omega)
  have k39xxxxxxxxxxuuuu := th_MA_up (b := b31) (x := (7, a0)) k39xxxxxxxxxxuuu (fun e => dd_b39_b31 e.symm)
  have n39xxxxxxxxxxuuuu : ¬ th_MR G (th_up (th_up (th_up (th_up Γ b7 (4, a0)) b15 (5, a0)) b23 (6, a0)) b31 (7, a0)) H87 b39 := fun w => n39xxxxxxxxxxuuu (th_MR_up (show (7 : Nat) ≠ 12 by decide) w)
  have kz87uuuu := th_MA_up (b := b31) (x := (7, a0)) kz87uuu (fun e => dd_b46_b31 e.symm)
  have n46xxxxxxxxuuuu : ¬ th_MR G (th_up (th_up (th_up (th_up Γ b7 (4, a0)) b15 (5, a0)) b23 (6, a0)) b31 (7, a0)) H87 b46 := fun w => n46xxxxxxxxuuu (th_MR_up (show (7 : Nat) ≠ 12 by decide) w)
  have k54xxxxxxuuuu := th_MA_up (b := b31) (x := (7, a0)) k54xxxxxxuuu (fun e => dd_b54_b31 e.symm)
  have n54xxxxxxuuuu : ¬ th_MR G (th_up (th_up (th_up (th_up Γ b7 (4, a0)) b15 (5, a0)) b23 (6, a0)) b31 (7, a0)) H87 b54 := fun w => n54xxxxxxuuu (th_MR_up (show (7 : Nat) ≠ 12 by decide) w)
  have hI2 := th_nmA (r := 8) (o := a0) hI1 k39xxxxxxxxxxuuuu ro_8 (Nat.le_refl _) (Nat.le_refl _) (fun i _ => th_sI (x := 0) (by decide) (by decide))
  have hR1 := th_RC_up hI1 hR1 (x := (8, a0)) k39xxxxxxxxxxuuuu.2.1 n39xxxxxxxxxxuuuu hI2 (fun e => absurd (show (8 : Nat) = 3 from e) (by decide)) (fun e => absurd (show (8 : Nat) = 18 ∨ (8 : Nat) = 19 from e) (by decide)) (show (8 : Nat) ≠ 12 by decide)
  have hI1 := hI2
  have hIN := th_IN_up (b := b39) (x := (8, a0)) hIN (ini_r rfl rfl rfl rfl (fun i hi => th_sl_at k39xxxxxxxxxx.2.2 (arrV_read _ _ hi)))
  have ho := th_OB_up (b := b39) (x := (8, a0)) ho (by have q9 := lb39; omega)
  have kz87uuuuu := th_MA_up (b := b39) (x := (8, a0)) kz87uuuu (fun e => dd_b46_b39 e.symm)
  have n46xxxxxxxxuuuuu : ¬ th_MR G (th_up (th_up (th_up (th_up (th_up Γ b7 (4, a0)) b15 (5, a0)) b23 (6, a0)) b31 (7, a0)) b39 (8, a0)) H87 b46 := fun w => n46xxxxxxxxuuuu (th_MR_up (show (8 : Nat) ≠ 12 by decide) w)
  have k54xxxxxxuuuuu := th_MA_up (b := b39) (x := (8, a0)) k54xxxxxxuuuu (fun e => dd_b54_b39 e.symm)
  have n54xxxxxxuuuuu : ¬ th_MR G (th_up (th_up (th_up (th_up (th_up Γ b7 (4, a0)) b15 (5, a0)) b23 (6, a0)) b31 (7, a0)) b39 (8, a0)) H87 b54 := fun w => n54xxxxxxuuuu (th_MR_up (show (8 : Nat) ≠ 12 by decide) w)
  have hI2 := th_nmA (r := 9) (o := a0) hI1 kz87uuuuu ro_9 (Nat.le_refl _) (Nat.le_refl _) (fun i _ => by unfold updV; (repeat' split) <;> exact th_sIa)
  have hR1 := th_RC_up hI1 hR1 (x := (9, a0)) kz87uuuuu.2.1 n46xxxxxxxxuuuuu hI2 (fun e => absurd (show (9 : Nat) = 3 from e) (by decide)) (fun e => absurd (show (9 : Nat) = 18 ∨ (9 : Nat) = 19 from e) (by decide)) (show (9 : Nat) ≠ 12 by decide)
  have hI1 := hI2
  have hIN := th_IN_up (b := b46) (x := (9, a0)) hIN (ini_r rfl rfl rfl rfl (fun i hi => (th_sl_at kz87.2.2 (arrV_read _ _ hi)).trans (by match i, hi with
    | 0, _ => rfl
    | 1, _ => rfl
    | 2, _ => rfl
    | n + 3, h => exact absurd h (by omega))))
  have ho := th_OB_up (b := b46) (x := (9, a0)) ho (by have q9 := lb46; omega)
  have k54xxxxxxuuuuuu := th_MA_up (b := b46) (x := (9, a0)) k54xxxxxxuuuuu (fun e => dd_b54_b46 e.symm)
  have n54xxxxxxuuuuuu : ¬ th_MR G (th_up (th_up (th_up (th_up (th_up (th_up Γ b7 (4, a0)) b15 (5, a0)) b23 (6, a0)) b31 (7, a0)) b39 (8, a0)) b46 (9, a0)) H87 b54 := fun w => n54xxxxxxuuuuu (th_MR_up (show (9 : Nat) ≠ 12 by decide) w)
  have hI2 := th_nmA (r := 10) (o := a0) hI1 k54xxxxxxuuuuuu ro_10 (Nat.le_refl _) (Nat.le_refl _) (fun i _ => th_sI (x := 0) (by decide) (by decide))
  have hR1 := th_RC_up hI1 hR1 (x := (10, a0)) k54xxxxxxuuuuuu.2.1 n54xxxxxxuuuuuu hI2 (fun e => absurd (show (10 : Nat) = 3 from e) (by decide)) (fun e => absurd (show (10 : Nat) = 18 ∨ (10 : Nat) = 19 from e) (by decide)) (show (10 : Nat) ≠ 12 by decide)
  have hI1 := hI2
  have hIN := th_IN_up (b := b54) (x := (10, a0)) hIN (ini_r rfl rfl rfl rfl (fun i hi => th_sl_at k54xxxxxx.2.2 (arrV_read _ _ hi)))
  have ho := th_OB_up (b := b54) (x := (10, a0)) ho (by have q9 := lb54; omega)
  have g_b7 : (th_up (th_up (th_up (th_up (th_up (th_up (th_up Γ b7 (4, a0)) b15 (5, a0)) b23 (6, a0)) b31 (7, a0)) b39 (8, a0)) b46 (9, a0)) b54 (10, a0)) b7 = (4, a0) := (th_up_n (dd_b54_b7)).trans ((th_up_n (dd_b46_b7)).trans ((th_up_n (dd_b39_b7)).trans ((th_up_n (dd_b31_b7)).trans ((th_up_n (dd_b23_b7)).trans ((th_up_n (dd_b15_b7)).trans (th_up_s))))))
  have g_b15 : (th_up (th_up (th_up (th_up (th_up (th_up (th_up Γ b7 (4, a0)) b15 (5, a0)) b23 (6, a0)) b31 (7, a0)) b39 (8, a0)) b46 (9, a0)) b54 (10, a0)) b15 = (5, a0) := (th_up_n (dd_b54_b15)).trans ((th_up_n (dd_b46_b15)).trans ((th_up_n (dd_b39_b15)).trans ((th_up_n (dd_b31_b15)).trans ((th_up_n (dd_b23_b15)).trans (th_up_s)))))
  have g_b23 : (th_up (th_up (th_up (th_up (th_up (th_up (th_up Γ b7 (4, a0)) b15 (5, a0)) b23 (6, a0)) b31 (7, a0)) b39 (8, a0)) b46 (9, a0)) b54 (10, a0)) b23 = (6, a0) := (th_up_n (dd_b54_b23)).trans ((th_up_n (dd_b46_b23)).trans ((th_up_n (dd_b39_b23)).trans ((th_up_n (dd_b31_b23)).trans (th_up_s))))
  have g_b31 : (th_up (th_up (th_up (th_up (th_up (th_up (th_up Γ b7 (4, a0)) b15 (5, a0)) b23 (6, a0)) b31 (7, a0)) b39 (8, a0)) b46 (9, a0)) b54 (10, a0)) b31 = (7, a0) := (th_up_n (dd_b54_b31)).trans ((th_up_n (dd_b46_b31)).trans ((th_up_n (dd_b39_b31)).trans (th_up_s)))
  have g_b39 : (th_up (th_up (th_up (th_up (th_up (th_up (th_up Γ b7 (4, a0)) b15 (5, a0)) b23 (6, a0)) b31 (7, a0)) b39 (8, a0)) b46 (9, a0)) b54 (10, a0)) b39 = (8, a0) := (th_up_n (dd_b54_b39)).trans ((th_up_n (dd_b46_b39)).trans (th_up_s))
  have g_b46 : (th_up (th_up (th_up (th_up (th_up (th_up (th_up Γ b7 (4, a0)) b15 (5, a0)) b23 (6, a0)) b31 (7, a0)) b39 (8, a0)) b46 (9, a0)) b54 (10, a0)) b46 = (9, a0) := (th_up_n (dd_b54_b46)).trans (th_up_s)
  have g_b54 : (th_up (th_up (th_up (th_up (th_up (th_up (th_up Γ b7 (4, a0)) b15 (5, a0)) b23 (6, a0)) b31 (7, a0)) b39 (8, a0)) b46 (9, a0)) b54 (10, a0)) b54 = (10, a0) := th_up_s
  have nm0 : ¬ th_MR G (th_up (th_up (th_up (th_up (th_up (th_up (th_up Γ b7 (4, a0)) b15 (5, a0)) b23 (6, a0)) b31 (7, a0)) b39 (8, a0)) b46 (9, a0)) b54 (10, a0)) H87 a0 := fun w => hB.2.2.1 (th_MR_up (show (4 : Nat) ≠ 12 by decide) (th_MR_up (show (5 : Nat) ≠ 12 by decide) (th_MR_up (show (6 : Nat) ≠ 12 by decide) (th_MR_up (show (7 : Nat) ≠ 12 by decide) (th_MR_up (show (8 : Nat) ≠ 12 by decide) (th_MR_up (show (9 : Nat) ≠ 12 by decide) (th_MR_up (show (10 : Nat) ≠ 12 by decide) w)))))))
  have hI2 := th_nmO (r := 3) hI1 ho hsz ro_3 rfl (fun j q hq => by
    match j, hq with
    | 0, hq => have e9 := Option.some.inj hq; subst e9; exact th_sO g_b7
    | 1, hq => have e9 := Option.some.inj hq; subst e9; exact th_sO g_b15
    | 2, hq => have e9 := Option.some.inj hq; subst e9; exact th_sO g_b23
    | 3, hq => have e9 := Option.some.inj hq; subst e9; exact th_sO g_b31
    | 4, hq => have e9 := Option.some.inj hq; subst e9; exact th_sO g_b39
    | 5, hq => have e9 := Option.some.inj hq; subst e9; exact th_sO g_b46
    | 6, hq => have e9 := Option.some.inj hq; subst e9; exact th_sO g_b54
    | 7, hq => have e9 := Option.some.inj hq; subst e9; exact th_sI (x := 0) (by decide) (by decide)
    | 8, hq => have e9 := Option.some.inj hq; subst e9; exact th_sI (x := 8) (by decide) (by decide)
    | 9, hq => have e9 := Option.some.inj hq; subst e9; exact th_sI (x := 8) (by decide) (by decide)
    | 10, hq => have e9 := Option.some.inj hq; subst e9; exact th_sI (x := 0) (by decide) (by decide)
    | n + 11, hq => exact absurd (List.getElem?_eq_some_iff.mp hq).1 (by simp))
  have hR2 := th_RC_up hI1 hR1 (x := (3, 0)) ho.1 nm0 hI2 (fun _ => tc_XY ho rfl k39xxxxxxxxxxuuuu.2.2) (fun e => absurd e (by decide)) (by decide)
  have hIN2 := th_IN_up (b := a0) (x := (3, 0)) hIN (ini_f (r := 3) ho rfl rfl rfl (fun j x hm => by
    rcases List.mem_cons.mp hm with e | hm
    · cases e; exact ⟨by decide, rfl⟩
    rcases List.mem_cons.mp hm with e | hm
    · cases e; exact ⟨by decide, rfl⟩
    rcases List.mem_cons.mp hm with e | hm
    · cases e; exact ⟨by decide, rfl⟩
    rcases List.mem_cons.mp hm with e | hm
    · cases e; exact ⟨by decide, rfl⟩
    cases hm) (fun j d hm => by
    rcases List.mem_cons.mp hm with e | hm
    · cases e; exact ⟨by decide, by rw [← of_b7]; rfl⟩
    rcases List.mem_cons.mp hm with e | hm
    · cases e; exact ⟨by decide, by rw [← of_b15]; rfl⟩
    rcases List.mem_cons.mp hm with e | hm
    · cases e; exact ⟨by decide, by rw [← of_b23]; rfl⟩
    rcases List.mem_cons.mp hm with e | hm
    · cases e; exact ⟨by decide, by rw [← of_b31]; rfl⟩
    rcases List.mem_cons.mp hm with e | hm
    · cases e; exact ⟨by decide, by rw [← of_b39]; rfl⟩
    rcases List.mem_cons.mp hm with e | hm
    · cases e; exact ⟨by decide, by rw [← of_b46]; rfl⟩
    rcases List.mem_cons.mp hm with e | hm
    · cases e; exact ⟨by decide, by rw [← of_b54]; rfl⟩
    cases hm))
  have gq : ∀ q, q < H0.size → q ≠ a0 → (th_up (th_up (th_up (th_up (th_up (th_up (th_up (th_up Γ b7 (4, a0)) b15 (5, a0)) b23 (6, a0)) b31 (7, a0)) b39 (8, a0)) b46 (9, a0)) b54 (10, a0)) a0 (3, 0)) q = Γ q := fun q h1 h2 => ((((((((th_up_n h2).trans (th_up_n (by have q9 := lb54; omega))).trans (th_up_n (by have q9 := lb46; omega))).trans (th_up_n (by have q9 := lb39; omega))).trans (th_up_n (by have q9 := lb31; omega))).trans (th_up_n (by have q9 := lb23; omega))).trans (th_up_n (by have q9 := lb15; omega))).trans (th_up_n (by have q9 := lb7; omega)))
  refine th_vret hC hH hr hlocks hB.1.2.1 ⟨rfl, (th_up (th_up (th_up (th_up (th_up (th_up (th_up (th_up Γ b7 (4, a0)) b15 (5, a0)) b23 (6, a0)) b31 (7, a0)) b39 (8, a0)) b46 (9, a0)) b54 (10, a0)) a0 (3, 0)), ⟨⟨hI2, (by omega), fun q h1 h2 => ⟨(gq q h1 h2).trans (hB.1.2.2.2.1 q h1 h2), hB.1.2.2.1 q h1 h2⟩⟩, hR2, th_up_s, fun q w => hB.2.2.2 q (th_MR_up (show (4 : Nat) ≠ 12 by decide) (th_MR_up (show (5 : Nat) ≠ 12 by decide) (th_MR_up (show (6 : Nat) ≠ 12 by decide) (th_MR_up (show (7 : Nat) ≠ 12 by decide) (th_MR_up (show (8 : Nat) ≠ 12 by decide) (th_MR_up (show (9 : Nat) ≠ 12 by decide) (th_MR_up (show (10 : Nat) ≠ 12 by decide) (th_MR_up (show (3 : Nat) ≠ 12 by decide) w)))))))), fun q x o hg hq hs => ?_⟩, hIN2, hs⟩ dX1_init_88
  by_cases e_a0 : q = a0
  · rw [e_a0, th_up_s] at hg; cases hg; decide
  rw [th_up_n e_a0] at hg
  by_cases e_b54 : q = b54
  · rw [e_b54, th_up_s] at hg; cases hg; decide
  rw [th_up_n e_b54] at hg
  by_cases e_b46 : q = b46
  · rw [e_b46, th_up_s] at hg; cases hg; decide
  rw [th_up_n e_b46] at hg
  by_cases e_b39 : q = b39
  · rw [e_b39, th_up_s] at hg; cases hg; decide
  rw [th_up_n e_b39] at hg
  by_cases e_b31 : q = b31
  · rw [e_b31, th_up_s] at hg; cases hg; decide
  rw [th_up_n e_b31] at hg
  by_cases e_b23 : q = b23
  · rw [e_b23, th_up_s] at hg; cases hg; decide
  rw [th_up_n e_b23] at hg
  by_cases e_b15 : q = b15
  · rw [e_b15, th_up_s] at hg; cases hg; decide
  rw [th_up_n e_b15] at hg
  by_cases e_b7 : q = b7
  · rw [e_b7, th_up_s] at hg; cases hg; decide
  rw [th_up_n e_b7] at hg
  exact (show ∀ x ∈ ([] : List Nat), x ∈ [3, 4, 5, 6, 7, 8, 9, 10] by decide) x (hN q x o hg hq hs)

set_option maxHeartbeats 4000000 in
set_option maxRecDepth 100000 in
theorem c_X2_init_i (l : Launch) (G : th_G) (Γ : th_Ga) (H0 : Heap) (hI : th_I G Γ H0) (hR : th_RC G Γ H0) (a0 : Nat) (ho : th_OB G Γ H0 a0 2 1 (fun j => defaultValue (tyX2 j))) (hsz : G.2.2 ≤ a0) (hlt : a0 < H0.size) (hm : ¬ th_MR G Γ H0 a0) (hz1 : H0.size = a0 + 1) : Met l yX2_init (.code yX2_init cX2_init 1 (none) :: th_tb) ({ frames := 2, cells := 4, slots := 94, locals := 32 } : Room) (th_P [.ref a0] G H0) (th_Q (fun (v : Option Value) (H1 : Heap) => v = none ∧ ∃ Γ1 : th_Ga, th_NY G Γ Γ1 a0 11 [11, 23, 24, 25, 26] H0 H1 ∧ th_IN G Γ1 a0 H0 H1 ∧ H1.size = H0.size + 4) G) 4 94 (fun q => G.2.2 ≤ q) := by
  refine th_met RX2 (by decide) rfl (Nat.le_of_ble_eq_true rfl) ?_
  intro p e s m below meth c hC hH hr hlocks hnm ls hl
  have hx := hC.1
  have hb := hC.2.1
  have hB : th_NR G Γ Γ a0 H0 H0 [] := ⟨⟨hI, va_S.rf, fun _ _ _ => rfl, fun _ _ _ => rfl, ho.1, hsz, hlt⟩, hR, hm, fun q w => Or.inl w⟩
  have hl : lv_has ls 1 [(0, .ref a0)] := hl
  have hs : H0.size ≤ H0.size := Nat.le_refl _
  have hN := th_new_0 (a0 := a0) hI ho.1
  have hIN := th_IN_0 (a0 := a0) hI ho.1
  refine lv_aload_n hx hb dX2_init_0 rfl (lv_at hl 0 rfl) ?_
  refine W.objInit hx hb hC.2.2.2.1 (hC.2.2.2.2.1 _ kw_252) (hC.2.2.2.2.1 _ kw_28) (hC.2.2.2.2.1 _ kw_29) rfl (hl.1.trans hC.2.2.1.symm) rfl dX2_init_1 (Nat.le_of_ble_eq_true rfl) (Nat.le_of_ble_eq_true rfl) ?_
  refine W.eq (g2 := F0 m 4 ls []) rfl ?_
  refine lv_aload_n hx hb dX2_init_4 rfl (lv_at hl 0 rfl) ?_
  refine tc_new hC cf_X6 hB.1 kw_253 kw_225 kw_7 (Nat.le_of_ble_eq_true rfl) (Nat.le_of_ble_eq_true rfl) dX2_init_5 (fun b5 H5 eb5 zb5 oq5 hB1 kn => ?_)
  have n50 : ¬ th_MR G Γ H0 b5 := fun w => absurd (th_MR_lt hB.2.1 w) (by omega)
  have u5 := kn.1
  have hB := th_NR_s hB hB1 u5 n50 (by omega) oq5
  have hIN := th_IN_s hIN u5 oq5
  have nb : ¬ th_MR G Γ H5 b5 := fun w => n50 (th_MR_s u5 oq5 w)
  have ho := tc_OBo ho oq5 (by omega)
  have lbn : H0.size ≤ b5 := by omega
  have ltn : b5 < H5.size := by omega
  have szn : G.2.2 ≤ b5 := by have q9 := hB.1.2.2.2.2.2.1; have q8 := hB.1.2.2.2.2.2.2; omega
  have hs : H5.size = H0.size + 1 := by omega
  have of_b5 : b5 = a0 + 1 := by omega
  refine lv_dup hx hb dX2_init_8 rfl ?_
  refine th_call (th_runI (As := []) (rest := [.ref b5, .ref a0]) hC mf_X6_init km_X2_11 im_X6_init rfl (c_X6_init_i l G Γ H5 hB.1.1 hB.2.1 b5 kn szn ltn nb (by omega)) rfl rfl ⟨Nat.le_of_ble_eq_true rfl, Nat.le_of_ble_eq_true rfl⟩ rfl hl.1 rfl (Nat.le_of_ble_eq_true rfl) dX2_init_9 ⟨Nat.le_of_ble_eq_true rfl, Nat.le_of_ble_eq_true rfl⟩) hB.1.2.1 (fun v9 H9 locs hp hz hS => ?_)
  obtain ⟨rfl, Γ9, hy, hi, hzn⟩ := hp
  have hB := th_NR_c hB hy lbn hS
  have hIN := th_IN_c hIN hy hi
  have ho := tc_OBc ho hy (by omega) (by omega)
  have hr_b5 := hy.2.2.1
  have hs : H9.size = H0.size + 4 := by omega
  have lt_b5 : b5 < H9.size := by omega
  have hN := th_new_c hN hy
  refine W.eq (g2 := F0 m 12 ls [.ref b5, .ref a0]) rfl ?_
  refine tc_putF hC cf_X2 hB.1 ho (j := 0) (by decide) rfl hnm rfl rfl kf_X2_12 dX2_init_12 (fun H12 locs hB1 ho z12 oq12 => ?_)
  have hu := hB.1.2.2.2.2.1
  have hB := th_NR_s hB hB1 hu hB.2.2.1 (by omega) oq12
  have hIN := th_IN_s hIN hu oq12
  have hs : H12.size = H0.size + 4 := by omega
  have lt_b5 : b5 < H12.size := by omega
  have hI1 := hB.1.1
  have hR1 := hB.2.1
  have nm0 : ¬ th_MR G Γ9 H12 a0 := fun w => hB.2.2.1 w
  have hI2 := th_nmO (r := 11) hI1 ho hsz ro_11 rfl (fun j q hq => by
    match j, hq with
    | 0, hq => have e9 := Option.some.inj hq; subst e9; exact th_sR hr_b5
    | n + 1, hq => exact absurd (List.getElem?_eq_some_iff.mp hq).1 (by simp))
  have hR2 := th_RC_up hI1 hR1 (x := (11, 0)) ho.1 nm0 hI2 (fun e => absurd e (by decide)) (fun e => absurd e (by decide)) (by decide)
  have hIN2 := th_IN_up (b := a0) (x := (11, 0)) hIN (ini_f (r := 11) ho rfl rfl rfl (fun j x hm => by
    cases hm) (fun j d hm => by
    rcases List.mem_cons.mp hm with e | hm
    · cases e; exact ⟨by decide, by rw [← of_b5]; rfl⟩
    cases hm))
  have gq : ∀ q, q < H0.size → q ≠ a0 → (th_up Γ9 a0 (11, 0)) q = Γ9 q := fun q h1 h2 => (th_up_n h2)
  refine th_vret hC hH hr hlocks hB.1.2.1 ⟨rfl, (th_up Γ9 a0 (11, 0)), ⟨⟨hI2, (by omega), fun q h1 h2 => ⟨(gq q h1 h2).trans (hB.1.2.2.2.1 q h1 h2), hB.1.2.2.1 q h1 h2⟩⟩, hR2, th_up_s, fun q w => hB.2.2.2 q (th_MR_up (show (11 : Nat) ≠ 12 by decide) w), fun q x o hg hq hs => ?_⟩, hIN2, hs⟩ dX2_init_15
  by_cases e_a0 : q = a0
  · rw [e_a0, th_up_s] at hg; cases hg; decide
  rw [th_up_n e_a0] at hg
  exact (show ∀ x ∈ (([] ++ [23, 24, 25, 26]) : List Nat), x ∈ [11, 23, 24, 25, 26] by decide) x (hN q x o hg hq hs)

set_option maxHeartbeats 4000000 in
set_option maxRecDepth 100000 in
theorem c_X4_init_i (l : Launch) (G : th_G) (Γ : th_Ga) (H0 : Heap) (hI : th_I G Γ H0) (hR : th_RC G Γ H0) (a0 : Nat) (ho : th_OB G Γ H0 a0 4 5 (fun j => defaultValue (tyX4 j))) (hsz : G.2.2 ≤ a0) (hlt : a0 < H0.size) (hm : ¬ th_MR G Γ H0 a0) (hz1 : H0.size = a0 + 1) : Met l yX4_init (.code yX4_init cX4_init 1 (none) :: th_tb) ({ frames := 2, cells := 10, slots := 1031, locals := 32 } : Room) (th_P [.ref a0] G H0) (th_Q (fun (v : Option Value) (H1 : Heap) => v = none ∧ ∃ Γ1 : th_Ga, th_NY G Γ Γ1 a0 17 [3, 4, 5, 6, 7, 8, 9, 10, 17, 18, 19] H0 H1 ∧ th_IN G Γ1 a0 H0 H1 ∧ H1.size = H0.size + 10) G) 10 1031 (fun q => G.2.2 ≤ q) := by
  refine th_met RX4 (by decide) rfl (Nat.le_of_ble_eq_true rfl) ?_
  intro p e s m below meth c hC hH hr hlocks hnm ls hl
  have hx := hC.1
  have hb := hC.2.1
  have hB : th_NR G Γ Γ a0 H0 H0 [] := ⟨⟨hI, va_S.rf, fun _ _ _ => rfl, fun _ _ _ => rfl, ho.1, hsz, hlt⟩, hR, hm, fun q w => Or.inl w⟩
  have hl : lv_has ls 1 [(0, .ref a0)] := hl
  have hs : H0.size ≤ H0.size := Nat.le_refl _
  have hN := th_new_0 (a0 := a0) hI ho.1
  have hIN := th_IN_0 (a0 := a0) hI ho.1
  refine lv_aload_n hx hb dX4_init_0 rfl (lv_at hl 0 rfl) ?_
  refine W.objInit hx hb hC.2.2.2.1 (hC.2.2.2.2.1 _ kw_264) (hC.2.2.2.2.1 _ kw_28) (hC.2.2.2.2.1 _ kw_29) rfl (hl.1.trans hC.2.2.1.symm) rfl dX4_init_1 (Nat.le_of_ble_eq_true rfl) (Nat.le_of_ble_eq_true rfl) ?_
  refine W.eq (g2 := F0 m 4 ls []) rfl ?_
  refine lv_aload_n hx hb dX4_init_4 rfl (lv_at hl 0 rfl) ?_
  refine lv_sipush (v := 480) hx hb dX4_init_5 (by decide) ?_
  refine tc_newa (ty := .int) (t := 0) hC hB.1 rfl rfl rfl kw_104 (N := 480) tk_480 (by decide) (Nat.le_of_ble_eq_true rfl) (Nat.le_of_ble_eq_true rfl) dX4_init_8 (fun b8 H8 eb8 zb8 oq8 hB1 k8 => ?_)
  have u8 := k8.2.1
  have n80 : ¬ th_MR G Γ H0 b8 := fun w => absurd (th_MR_lt hB.2.1 w) (by omega)
  have hB := th_NR_s hB hB1 u8 n80 (by omega) oq8
  have hIN := th_IN_s hIN u8 oq8
  have n8 : ¬ th_MR G Γ H8 b8 := fun w => n80 (th_MR_s u8 oq8 w)
  have lb8 : H0.size ≤ b8 := by omega
  have ho := tc_OBo ho oq8 (by omega)
  have hs : H8.size = H0.size + 1 := by omega
  have lt_b8 : b8 < H8.size := by omega
  have of_b8 : b8 = a0 + 1 := by omega
  refine tc_putF hC cf_X4 hB.1 ho (j := 0) (by decide) rfl hnm rfl rfl kf_X4_11 dX4_init_10 (fun H10 locs hB1 ho z10 oq10 => ?_)
  have hu := hB.1.2.2.2.2.1
  have hB := th_NR_s hB hB1 hu hB.2.2.1 (by omega) oq10
  have hIN := th_IN_s hIN hu oq10
  have k8x := tm_MAo k8 oq10 (by have q9 := lb8; omega)
  have n8x : ¬ th_MR G Γ H10 b8 := fun w => n8 (th_MR_s hu oq10 w)
  have hs : H10.size = H0.size + 1 := by omega
  have lt_b8 : b8 < H10.size := by omega
  refine lv_aload_n hx hb dX4_init_13 rfl (lv_at hl 0 rfl) ?_
  refine lv_sipush (v := 480) hx hb dX4_init_14 (by decide) ?_
  refine tc_newa (ty := .int) (t := 0) hC hB.1 rfl rfl rfl kw_104 (N := 480) tk_480 (by decide) (Nat.le_of_ble_eq_true rfl) (Nat.le_of_ble_eq_true rfl) dX4_init_17 (fun b17 H17 eb17 zb17 oq17 hB1 k17 => ?_)
  have u17 := k17.2.1
  have n170 : ¬ th_MR G Γ H10 b17 := fun w => absurd (th_MR_lt hB.2.1 w) (by omega)
  have hB := th_NR_s hB hB1 u17 n170 (by omega) oq17
  have hIN := th_IN_s hIN u17 oq17
  have n17 : ¬ th_MR G Γ H17 b17 := fun w => n170 (th_MR_s u17 oq17 w)
  have lb17 : H0.size ≤ b17 := by omega
  have ho := tc_OBo ho oq17 (by omega)
  have k8xx := tm_MAo k8x oq17 (by have q9 := tm_lt k8x; omega)
  have n8xx : ¬ th_MR G Γ H17 b8 := fun w => n8x (th_MR_s u17 oq17 w)
  have hs : H17.size = H0.size + 2 := by omega
  have dd_b17_b8 : b8 ≠ b17 := by have q9 := lt_b8; omega
  have lt_b17 : b17 < H17.size := by omega
  have lt_b8 : b8 < H17.size := by omega
  have of_b17 : b17 = a0 + 2 := by omega
  refine tc_putF hC cf_X4 hB.1 ho (j := 1) (by decide) rfl hnm rfl rfl kf_X4_15 dX4_init_19 (fun H19 locs hB1 ho z19 oq19 => ?_)
  have hu := hB.1.2.2.2.2.1
  have hB := th_NR_s hB hB1 hu hB.2.2.1 (by omega) oq19
  have hIN := th_IN_s hIN hu oq19
  have k8xxx := tm_MAo k8xx oq19 (by have q9 := lb8; omega)
  have n8xxx : ¬ th_MR G Γ H19 b8 := fun w => n8xx (th_MR_s hu oq19 w)
  have k17x := tm_MAo k17 oq19 (by have q9 := lb17; omega)
  have n17x : ¬ th_MR G Γ H19 b17 := fun w => n17 (th_MR_s hu oq19 w)
  have hs : H19.size = H0.size + 2 := by omega
  have lt_b8 : b8 < H19.size := by omega
  have lt_b17 : b17 < H19.size := by omega
  refine lv_aload_n hx hb dX4_init_22 rfl (lv_at hl 0 rfl) ?_
  refine tc_new hC cf_X1 hB.1 kw_265 kw_37 kw_3 (Nat.le_of_ble_eq_true rfl) (Nat.le_of_ble_eq_true rfl) dX4_init_23 (fun b23 H23 eb23 zb23 oq23 hB1 kn => ?_)
  have n230 : ¬ th_MR G Γ H19 b23 := fun w => absurd (th_MR_lt hB.2.1 w) (by omega)
  have u23 := kn.1
  have hB := th_NR_s hB hB1 u23 n230 (by omega) oq23
  have hIN := th_IN_s hIN u23 oq23
  have nb : ¬ th_MR G Γ H23 b23 := fun w => n230 (th_MR_s u23 oq23 w)
  have ho := tc_OBo ho oq23 (by omega)
  have k8xxxx := tm_MAo k8xxx oq23 (by have q9 := lt_b8; omega)
  have n8xxxx : ¬ th_MR G Γ H23 b8 := fun w => n8xxx (th_MR_s u23 oq23 w)
  have k17xx := tm_MAo k17x oq23 (by have q9 := lt_b17; omega)
  have n17xx : ¬ th_MR G Γ H23 b17 := fun w => n17x (th_MR_s u23 oq23 w)
  have lbn : H0.size ≤ b23 := by omega
  have ltn : b23 < H23.size := by omega
  have szn : G.2.2 ≤ b23 := by have q9 := hB.1.2.2.2.2.2.1; have q8 := hB.1.2.2.2.2.2.2; omega
  have ne_b8 : b8 ≠ b23 := by have q9 := lt_b8; omega
  have nr_b23_b8 : b23 ≠ b8 := fun e => ne_b8 e.symm
  have ne_b17 : b17 ≠ b23 := by have q9 := lt_b17; omega
  have nr_b23_b17 : b23 ≠ b17 := fun e => ne_b17 e.symm
  have hs : H23.size = H0.size + 3 := by omega
  have lt_b8 : b8 < H23.size := by omega
  have lt_b17 : b17 < H23.size := by omega
  have of_b23 : b23 = a0 + 3 := by omega
  refine lv_dup hx hb dX4_init_26 rfl ?_
  refine th_call (th_runI (As := []) (rest := [.ref b23, .ref a0]) hC mf_X1_init km_X4_20 im_X1_init rfl (c_X1_init_i l G Γ H23 hB.1.1 hB.2.1 b23 kn szn ltn nb (by omega)) rfl rfl ⟨Nat.le_of_ble_eq_true rfl, Nat.le_of_ble_eq_true rfl⟩ rfl hl.1 rfl (Nat.le_of_ble_eq_true rfl) dX4_init_27 ⟨Nat.le_of_ble_eq_true rfl, Nat.le_of_ble_eq_true rfl⟩) hB.1.2.1 (fun v27 H27 locs hp hz hS => ?_)
  obtain ⟨rfl, Γ27, hy, hi, hzn⟩ := hp
  have hB := th_NR_c hB hy lbn hS
  have hIN := th_IN_c hIN hy hi
  have ho := tc_OBc ho hy (by omega) (by omega)
  have n8xxxxx : ¬ th_MR G Γ27 H27 b8 := fun w => (hy.2.2.2.1 _ w).elim n8xxxx (fun w => absurd w (by have q9 := lt_b8; omega))
  have k8xxxxx := tc_MAc k8xxxx hy ne_b8
  have n17xxx : ¬ th_MR G Γ27 H27 b17 := fun w => (hy.2.2.2.1 _ w).elim n17xx (fun w => absurd w (by have q9 := lt_b17; omega))
  have k17xxx := tc_MAc k17xx hy ne_b17
  have hr_b23 := hy.2.2.1
  have hs : H27.size = H0.size + 10 := by omega
  have lt_b23 : b23 < H27.size := by omega
  have lt_b8 : b8 < H27.size := by omega
  have lt_b17 : b17 < H27.size := by omega
  have hN := th_new_c hN hy
  refine W.eq (g2 := F0 m 30 ls [.ref b23, .ref a0]) rfl ?_
  refine tc_putF hC cf_X4 hB.1 ho (j := 2) (by decide) rfl hnm rfl rfl kf_X4_21 dX4_init_30 (fun H30 locs hB1 ho z30 oq30 => ?_)
  have hu := hB.1.2.2.2.2.1
  have hB := th_NR_s hB hB1 hu hB.2.2.1 (by omega) oq30
  have hIN := th_IN_s hIN hu oq30
  have k8xxxxxx := tm_MAo k8xxxxx oq30 (by have q9 := lb8; omega)
  have n8xxxxxx : ¬ th_MR G Γ27 H30 b8 := fun w => n8xxxxx (th_MR_s hu oq30 w)
  have k17xxxx := tm_MAo k17xxx oq30 (by have q9 := lb17; omega)
  have n17xxxx : ¬ th_MR G Γ27 H30 b17 := fun w => n17xxx (th_MR_s hu oq30 w)
  have hs : H30.size = H0.size + 10 := by omega
  have lt_b8 : b8 < H30.size := by omega
  have lt_b17 : b17 < H30.size := by omega
  have lt_b23 : b23 < H30.size := by omega
  refine lv_aload_n hx hb dX4_init_33 rfl (lv_at hl 0 rfl) ?_
  refine lv_iconst (v := 0) hx hb dX4_init_34 (by decide) ?_
  refine tc_put hC cf_X4 hB.1 ho (j := 3) (by decide) rfl rfl rfl kf_X4_25 dX4_init_35 (fun H35 locs hB1 ho z35 oq35 => ?_)
  have hu := hB.1.2.2.2.2.1
  have hB := th_NR_s hB hB1 hu hB.2.2.1 (by omega) oq35
  have hIN := th_IN_s hIN hu oq35
  have k8xxxxxxx := tm_MAo k8xxxxxx oq35 (by have q9 := lb8; omega)
  have n8xxxxxxx : ¬ th_MR G Γ27 H35 b8 := fun w => n8xxxxxx (th_MR_s hu oq35 w)
  have k17xxxxx := tm_MAo k17xxxx oq35 (by have q9 := lb17; omega)
  have n17xxxxx : ¬ th_MR G Γ27 H35 b17 := fun w => n17xxxx (th_MR_s hu oq35 w)
  have hs : H35.size = H0.size + 10 := by omega
  have lt_b8 : b8 < H35.size := by omega
  have lt_b17 : b17 < H35.size := by omega
  have lt_b23 : b23 < H35.size := by omega
  refine lv_aload_n hx hb dX4_init_38 rfl (lv_at hl 0 rfl) ?_
  refine lv_iconst (v := 0) hx hb dX4_init_39 (by decide) ?_
  refine tc_put hC cf_X4 hB.1 ho (j := 4) (by decide) rfl rfl rfl kf_X4_29 dX4_init_40 (fun H40 locs hB1 ho z40 oq40 => ?_)
  have hu := hB.1.2.2.2.2.1
  have hB := th_NR_s hB hB1 hu hB.2.2.1 (by omega) oq40
  have hIN := th_IN_s hIN hu oq40
  have k8xxxxxxxx := tm_MAo k8xxxxxxx oq40 (by have q9 := lb8; omega)
  have n8xxxxxxxx : ¬ th_MR G Γ27 H40 b8 := fun w => n8xxxxxxx (th_MR_s hu oq40 w)
  have k17xxxxxx := tm_MAo k17xxxxx oq40 (by have q9 := lb17; omega)
  have n17xxxxxx : ¬ th_MR G Γ27 H40 b17 := fun w => n17xxxxx (th_MR_s hu oq40 w)
  have hs : H40.size = H0.size + 10 := by omega
  have lt_b8 : b8 < H40.size := by omega
  have lt_b17 : b17 < H40.size := by omega
  have lt_b23 : b23 < H40.size := by omega
  have hI1 := hB.1.1
  have hR1 := hB.2.1
  have hI2 := th_nmA (r := 18) (o := a0) hI1 k8xxxxxxxx ro_18 (Nat.le_refl _) (Nat.le_refl _) (fun i _ => th_sI (x := 0) (by decide) (by decide))
  have hR1 := th_RC_up hI1 hR1 (x := (18, a0)) k8xxxxxxxx.2.1 n8xxxxxxxx hI2 (fun e => absurd (show (18 : Nat) = 3 from e) (by decide)) (fun _ => tc_PS k8xxxxxxxx.2.2) (show (18 : Nat) ≠ 12 by decide)
  have hI1 := hI2
  have hIN := th_IN_up (b := b8) (x := (18, a0)) hIN (ini_r rfl rfl rfl rfl (fun i hi => th_sl_at k8xxxxxxxx.2.2 (arrV_read _ _ hi)))
  have ho := th_OB_up (b := b8) (x := (18, a0)) ho (by have q9 := lb8; omega)
  have k17xxxxxxu := th_MA_up (b := b8) (x := (18, a0)) k17xxxxxx (fun e => dd_b17_b8 e.symm)
  have n17xxxxxxu : ¬ th_MR G (th_up Γ27 b8 (18, a0)) H40 b17 := fun w => n17xxxxxx (th_MR_up (show (18 : Nat) ≠ 12 by decide) w)
  have hI2 := th_nmA (r := 19) (o := a0) hI1 k17xxxxxxu ro_19 (Nat.le_refl _) (Nat.le_refl _) (fun i _ => th_sI (x := 0) (by decide) (by decide))
  have hR1 := th_RC_up hI1 hR1 (x := (19, a0)) k17xxxxxxu.2.1 n17xxxxxxu hI2 (fun e => absurd (show (19 : Nat) = 3 from e) (by decide)) (fun _ => tc_PS k17xxxxxxu.2.2) (show (19 : Nat) ≠ 12 by decide)
  have hI1 := hI2
  have hIN := th_IN_up (b := b17) (x := (19, a0)) hIN (ini_r rfl rfl rfl rfl (fun i hi => th_sl_at k17xxxxxx.2.2 (arrV_read _ _ hi)))
  have ho := th_OB_up (b := b17) (x := (19, a0)) ho (by have q9 := lb17; omega)
  have g_b8 : (th_up (th_up Γ27 b8 (18, a0)) b17 (19, a0)) b8 = (18, a0) := (th_up_n (dd_b17_b8)).trans (th_up_s)
  have g_b17 : (th_up (th_up Γ27 b8 (18, a0)) b17 (19, a0)) b17 = (19, a0) := th_up_s
  have nm0 : ¬ th_MR G (th_up (th_up Γ27 b8 (18, a0)) b17 (19, a0)) H40 a0 := fun w => hB.2.2.1 (th_MR_up (show (18 : Nat) ≠ 12 by decide) (th_MR_up (show (19 : Nat) ≠ 12 by decide) w))
  have hI2 := th_nmO (r := 17) hI1 ho hsz ro_17 rfl (fun j q hq => by
    match j, hq with
    | 0, hq => have e9 := Option.some.inj hq; subst e9; exact th_sO g_b8
    | 1, hq => have e9 := Option.some.inj hq; subst e9; exact th_sO g_b17
    | 2, hq => have e9 := Option.some.inj hq; subst e9; exact th_sR ((th_up_n nr_b23_b17).trans ((th_up_n nr_b23_b8).trans hr_b23))
    | 3, hq => have e9 := Option.some.inj hq; subst e9; exact th_sI (x := 0) (by decide) (by decide)
    | 4, hq => have e9 := Option.some.inj hq; subst e9; exact th_sI (x := 0) (by decide) (by decide)
    | n + 5, hq => exact absurd (List.getElem?_eq_some_iff.mp hq).1 (by simp))
  have hR2 := th_RC_up hI1 hR1 (x := (17, 0)) ho.1 nm0 hI2 (fun e => absurd e (by decide)) (fun e => absurd e (by decide)) (by decide)
  have hIN2 := th_IN_up (b := a0) (x := (17, 0)) hIN (ini_f (r := 17) ho rfl rfl rfl (fun j x hm => by
    rcases List.mem_cons.mp hm with e | hm
    · cases e; exact ⟨by decide, rfl⟩
    rcases List.mem_cons.mp hm with e | hm
    · cases e; exact ⟨by decide, rfl⟩
    cases hm) (fun j d hm => by
    rcases List.mem_cons.mp hm with e | hm
    · cases e; exact ⟨by decide, by rw [← of_b8]; rfl⟩
    rcases List.mem_cons.mp hm with e | hm
    · cases e; exact ⟨by decide, by rw [← of_b17]; rfl⟩
    rcases List.mem_cons.mp hm with e | hm
    · cases e; exact ⟨by decide, by rw [← of_b23]; rfl⟩
    cases hm))
  have gq : ∀ q, q < H0.size → q ≠ a0 → (th_up (th_up (th_up Γ27 b8 (18, a0)) b17 (19, a0)) a0 (17, 0)) q = Γ27 q := fun q h1 h2 => (((th_up_n h2).trans (th_up_n (by have q9 := lb17; omega))).trans (th_up_n (by have q9 := lb8; omega)))
  refine th_vret hC hH hr hlocks hB.1.2.1 ⟨rfl, (th_up (th_up (th_up Γ27 b8 (18, a0)) b17 (19, a0)) a0 (17, 0)), ⟨⟨hI2, (by omega), fun q h1 h2 => ⟨(gq q h1 h2).trans (hB.1.2.2.2.1 q h1 h2), hB.1.2.2.1 q h1 h2⟩⟩, hR2, th_up_s, fun q w => hB.2.2.2 q (th_MR_up (show (18 : Nat) ≠ 12 by decide) (th_MR_up (show (19 : Nat) ≠ 12 by decide) (th_MR_up (show (17 : Nat) ≠ 12 by decide) w))), fun q x o hg hq hs => ?_⟩, hIN2, hs⟩ dX4_init_43
  by_cases e_a0 : q = a0
  · rw [e_a0, th_up_s] at hg; cases hg; decide
  rw [th_up_n e_a0] at hg
  by_cases e_b17 : q = b17
  · rw [e_b17, th_up_s] at hg; cases hg; decide
  rw [th_up_n e_b17] at hg
  by_cases e_b8 : q = b8
  · rw [e_b8, th_up_s] at hg; cases hg; decide
  rw [th_up_n e_b8] at hg
  exact (show ∀ x ∈ (([] ++ [3, 4, 5, 6, 7, 8, 9, 10]) : List Nat), x ∈ [3, 4, 5, 6, 7, 8, 9, 10, 17, 18, 19] by decide) x (hN q x o hg hq hs)

set_option maxHeartbeats 4000000 in
set_option maxRecDepth 100000 in
theorem c_X8_init_i (l : Launch) (G : th_G) (Γ : th_Ga) (H0 : Heap) (hI : th_I G Γ H0) (hR : th_RC G Γ H0) (a0 : Nat) (ho : th_OB G Γ H0 a0 8 8 (fun j => defaultValue (tyX8 j))) (hsz : G.2.2 ≤ a0) (hlt : a0 < H0.size) (hm : ¬ th_MR G Γ H0 a0) (hz1 : H0.size = a0 + 1) : Met l yX8_init (.code yX8_init cX8_init 2 (none) :: th_tb) ({ frames := 2, cells := 30, slots := 3095, locals := 32 } : Room) (th_P [.ref a0] G H0) (th_Q (fun (v : Option Value) (H1 : Heap) => v = none ∧ ∃ Γ1 : th_Ga, th_NY G Γ Γ1 a0 32 [3, 4, 5, 6, 7, 8, 9, 10, 32, 33, 34, 35, 36, 39, 40, 41] H0 H1 ∧ th_IN G Γ1 a0 H0 H1 ∧ H1.size = H0.size + 30) G) 30 3095 (fun q => G.2.2 ≤ q) := by
  refine th_met RX8 (by decide) rfl (Nat.le_of_ble_eq_true rfl) ?_
  intro p e s m below meth c hC hH hr hlocks hnm ls hl
  have hx := hC.1
  have hb := hC.2.1
  have hB : th_NR G Γ Γ a0 H0 H0 [] := ⟨⟨hI, va_S.rf, fun _ _ _ => rfl, fun _ _ _ => rfl, ho.1, hsz, hlt⟩, hR, hm, fun q w => Or.inl w⟩
  have hl : lv_has ls 2 [(0, .ref a0)] := hl
  have hs : H0.size ≤ H0.size := Nat.le_refl _
  have hN := th_new_0 (a0 := a0) hI ho.1
  have hIN := th_IN_0 (a0 := a0) hI ho.1
  refine lv_aload_n hx hb dX8_init_0 rfl (lv_at hl 0 rfl) ?_
  refine W.objInit hx hb hC.2.2.2.1 (hC.2.2.2.2.1 _ kw_35) (hC.2.2.2.2.1 _ kw_28) (hC.2.2.2.2.1 _ kw_29) rfl (hl.1.trans hC.2.2.1.symm) rfl dX8_init_1 (Nat.le_of_ble_eq_true rfl) (Nat.le_of_ble_eq_true rfl) ?_
  refine W.eq (g2 := F0 m 4 ls []) rfl ?_
  refine lv_aload_n hx hb dX8_init_4 rfl (lv_at hl 0 rfl) ?_
  refine tc_new hC cf_X1 hB.1 kw_36 kw_37 kw_3 (Nat.le_of_ble_eq_true rfl) (Nat.le_of_ble_eq_true rfl) dX8_init_5 (fun b5 H5 eb5 zb5 oq5 hB1 kn => ?_)
  have n50 : ¬ th_MR G Γ H0 b5 := fun w => absurd (th_MR_lt hB.2.1 w) (by omega)
  have u5 := kn.1
  have hB := th_NR_s hB hB1 u5 n50 (by omega) oq5
  have hIN := th_IN_s hIN u5 oq5
  have nb : ¬ th_MR G Γ H5 b5 := fun w => n50 (th_MR_s u5 oq5 w)
  have ho := tc_OBo ho oq5 (by omega)
  have lbn : H0.size ≤ b5 := by omega
  have ltn : b5 < H5.size := by omega
  have szn : G.2.2 ≤ b5 := by have q9 := hB.1.2.2.2.2.2.1; have q8 := hB.1.2.2.2.2.2.2; omega
  have hs : H5.size = H0.size + 1 := by omega
  have of_b5 : b5 = a0 + 1 := by omega
  refine lv_dup hx hb dX8_init_8 rfl ?_
  refine th_call (th_runI (As := []) (rest := [.ref b5, .ref a0]) hC mf_X1_init km_X8_11 im_X1_init rfl (c_X1_init_i l G Γ H5 hB.1.1 hB.2.1 b5 kn szn ltn nb (by omega)) rfl rfl ⟨Nat.le_of_ble_eq_true rfl, Nat.le_of_ble_eq_true rfl⟩ rfl hl.1 rfl (Nat.le_of_ble_eq_true rfl) dX8_init_9 ⟨Nat.le_of_ble_eq_true rfl, Nat.le_of_ble_eq_true rfl⟩) hB.1.2.1 (fun v9 H9 locs hp hz hS => ?_)
  obtain ⟨rfl, Γ9, hy, hi, hzn⟩ := hp
  have hB := th_NR_c hB hy lbn hS
  have hIN := th_IN_c hIN hy hi
  have ho := tc_OBc ho hy (by omega) (by omega)
  have hr_b5 := hy.2.2.1
  have hs : H9.size = H0.size + 8 := by omega
  have lt_b5 : b5 < H9.size := by omega
  have hN := th_new_c hN hy
  refine W.eq (g2 := F0 m 12 ls [.ref b5, .ref a0]) rfl ?_
  refine tc_putF hC cf_X8 hB.1 ho (j := 0) (by decide) rfl hnm rfl rfl kf_X8_12 dX8_init_12 (fun H12 locs hB1 ho z12 oq12 => ?_)
  have hu := hB.1.2.2.2.2.1
  have hB := th_NR_s hB hB1 hu hB.2.2.1 (by omega) oq12
  have hIN := th_IN_s hIN hu oq12
  have hs : H12.size = H0.size + 8 := by omega
  have lt_b5 : b5 < H12.size := by omega
  refine lv_aload_n hx hb dX8_init_15 rfl (lv_at hl 0 rfl) ?_
  refine lv_bipush (v := 6) hx hb dX8_init_16 (by decide) ?_
  refine tc_anew (t := 4) hC hB.1 rfl hC.2.2.2.2.2.2.1 kw_105 (N := 6) tk_6 (by decide) (Nat.le_of_ble_eq_true rfl) (Nat.le_of_ble_eq_true rfl) dX8_init_18 (fun b18 H18 eb18 zb18 oq18 hB1 k18 => ?_)
  have u18 := k18.2.1
  have n180 : ¬ th_MR G Γ9 H12 b18 := fun w => absurd (th_MR_lt hB.2.1 w) (by omega)
  have hB := th_NR_s hB hB1 u18 n180 (by omega) oq18
  have hIN := th_IN_s hIN u18 oq18
  have n18 : ¬ th_MR G Γ9 H18 b18 := fun w => n180 (th_MR_s u18 oq18 w)
  have lb18 : H0.size ≤ b18 := by omega
  have ho := tc_OBo ho oq18 (by omega)
  have hs : H18.size = H0.size + 9 := by omega
  have lt_b18 : b18 < H18.size := by omega
  have nr_b5_b18 : b5 ≠ b18 := by have q9 := lt_b5; omega
  have lt_b5 : b5 < H18.size := by omega
  have of_b18 : b18 = a0 + 9 := by omega
  refine tc_putF hC cf_X8 hB.1 ho (j := 1) (by decide) rfl hnm rfl rfl kf_X8_20 dX8_init_21 (fun H21 locs hB1 ho z21 oq21 => ?_)
  have hu := hB.1.2.2.2.2.1
  have hB := th_NR_s hB hB1 hu hB.2.2.1 (by omega) oq21
  have hIN := th_IN_s hIN hu oq21
  have k18x := tm_MAo k18 oq21 (by have q9 := lb18; omega)
  have n18x : ¬ th_MR G Γ9 H21 b18 := fun w => n18 (th_MR_s hu oq21 w)
  have hs : H21.size = H0.size + 9 := by omega
  have lt_b18 : b18 < H21.size := by omega
  have lt_b5 : b5 < H21.size := by omega
  refine lv_aload_n hx hb dX8_init_24 rfl (lv_at hl 0 rfl) ?_
  refine lv_bipush (v := 6) hx hb dX8_init_25 (by decide) ?_
  refine tc_newa (ty := .int) (t := 0) hC hB.1 rfl rfl rfl kw_104 (N := 6) tk_6 (by decide) (Nat.le_of_ble_eq_true rfl) (Nat.le_of_ble_eq_true rfl) dX8_init_27 (fun b27 H27 eb27 zb27 oq27 hB1 k27 => ?_)
  have u27 := k27.2.1
  have n270 : ¬ th_MR G Γ9 H21 b27 := fun w => absurd (th_MR_lt hB.2.1 w) (by omega)
  have hB := th_NR_s hB hB1 u27 n270 (by omega) oq27
  have hIN := th_IN_s hIN u27 oq27
  have n27 : ¬ th_MR G Γ9 H27 b27 := fun w => n270 (th_MR_s u27 oq27 w)
  have lb27 : H0.size ≤ b27 := by omega
  have ho := tc_OBo ho oq27 (by omega)
  have k18xx := tm_MAo k18x oq27 (by have q9 := tm_lt k18x; omega)
  have n18xx : ¬ th_MR G Γ9 H27 b18 := fun w => n18x (th_MR_s u27 oq27 w)
  have hs : H27.size = H0.size + 10 := by omega
  have dd_b27_b18 : b18 ≠ b27 := by have q9 := lt_b18; omega
  have lt_b27 : b27 < H27.size := by omega
  have nr_b5_b27 : b5 ≠ b27 := by have q9 := lt_b5; omega
  have lt_b5 : b5 < H27.size := by omega
  have lt_b18 : b18 < H27.size := by omega
  have of_b27 : b27 = a0 + 10 := by omega
  refine tc_putF hC cf_X8 hB.1 ho (j := 2) (by decide) rfl hnm rfl rfl kf_X8_24 dX8_init_29 (fun H29 locs hB1 ho z29 oq29 => ?_)
  have hu := hB.1.2.2.2.2.1
  have hB := th_NR_s hB hB1 hu hB.2.2.1 (by omega) oq29
  have hIN := th_IN_s hIN hu oq29
  have k18xxx := tm_MAo k18xx oq29 (by have q9 := lb18; omega)
  have n18xxx : ¬ th_MR G Γ9 H29 b18 := fun w => n18xx (th_MR_s hu oq29 w)
  have k27x := tm_MAo k27 oq29 (by have q9 := lb27; omega)
  have n27x : ¬ th_MR G Γ9 H29 b27 := fun w => n27 (th_MR_s hu oq29 w)
  have hs : H29.size = H0.size + 10 := by omega
  have lt_b18 : b18 < H29.size := by omega
  have lt_b27 : b27 < H29.size := by omega
  have lt_b5 : b5 < H29.size := by omega
  refine lv_aload_n hx hb dX8_init_32 rfl (lv_at hl 0 rfl) ?_
  refine lv_bipush (v := 6) hx hb dX8_init_33 (by decide) ?_
  refine tc_newa (ty := .int) (t := 0) hC hB.1 rfl rfl rfl kw_104 (N := 6) tk_6 (by decide) (Nat.le_of_ble_eq_true rfl) (Nat.le_of_ble_eq_true rfl) dX8_init_35 (fun b35 H35 eb35 zb35 oq35 hB1 k35 => ?_)
  have u35 := k35.2.1
  have n350 : ¬ th_MR G Γ9 H29 b35 := fun w => absurd (th_MR_lt hB.2.1 w) (by omega)
  have hB := th_NR_s hB hB1 u35 n350 (by omega) oq35
  have hIN := th_IN_s hIN u35 oq35
  have n35 : ¬ th_MR G Γ9 H35 b35 := fun w => n350 (th_MR_s u35 oq35 w)
  have lb35 : H0.size ≤ b35 := by omega
  have ho := tc_OBo ho oq35 (by omega)
  have k18xxxx := tm_MAo k18xxx oq35 (by have q9 := tm_lt k18xxx; omega)
  have n18xxxx : ¬ th_MR G Γ9 H35 b18 := fun w => n18xxx (th_MR_s u35 oq35 w)
  have k27xx := tm_MAo k27x oq35 (by have q9 := tm_lt k27x; omega)
  have n27xx : ¬ th_MR G Γ9 H35 b27 := fun w => n27x (th_MR_s u35 oq35 w)
  have hs : H35.size = H0.size + 11 := by omega
  have dd_b35_b18 : b18 ≠ b35 := by have q9 := lt_b18; omega
  have dd_b35_b27 : b27 ≠ b35 := by have q9 := lt_b27; omega
  have lt_b35 : b35 < H35.size := by omega
  have nr_b5_b35 : b5 ≠ b35 := by have q9 := lt_b5; omega
  have lt_b5 : b5 < H35.size := by omega
  have lt_b18 : b18 < H35.size := by omega
  have lt_b27 : b27 < H35.size := by omega
  have of_b35 : b35 = a0 + 11 := by omega
  refine tc_putF hC cf_X8 hB.1 ho (j := 3) (by decide) rfl hnm rfl rfl kf_X8_28 dX8_init_37 (fun H37 locs hB1 ho z37 oq37 => ?_)
  have hu := hB.1.2.2.2.2.1
  have hB := th_NR_s hB hB1 hu hB.2.2.1 (by omega) oq37
  have hIN := th_IN_s hIN hu oq37
  have k18xxxxx := tm_MAo k18xxxx oq37 (by have q9 := lb18; omega)
  have n18xxxxx : ¬ th_MR G Γ9 H37 b18 := fun w => n18xxxx (th_MR_s hu oq37 w)
  have k27xxx := tm_MAo k27xx oq37 (by have q9 := lb27; omega)
  have n27xxx : ¬ th_MR G Γ9 H37 b27 := fun w => n27xx (th_MR_s hu oq37 w)
  have k35x := tm_MAo k35 oq37 (by have q9 := lb35; omega)
  have n35x : ¬ th_MR G Γ9 H37 b35 := fun w => n35 (th_MR_s hu oq37 w)
  have hs : H37.size = H0.size + 11 := by omega
  have lt_b18 : b18 < H37.size := by omega
  have lt_b27 : b27 < H37.size := by omega
  have lt_b35 : b35 < H37.size := by omega
  have lt_b5 : b5 < H37.size := by omega
  refine lv_aload_n hx hb dX8_init_40 rfl (lv_at hl 0 rfl) ?_
  refine lv_bipush (v := 6) hx hb dX8_init_41 (by decide) ?_
  refine tc_newa (ty := .int) (t := 0) hC hB.1 rfl rfl rfl kw_104 (N := 6) tk_6 (by decide) (Nat.le_of_ble_eq_true rfl) (Nat.le_of_ble_eq_true rfl) dX8_init_43 (fun b43 H43 eb43 zb43 oq43 hB1 k43 => ?_)
  have u43 := k43.2.1
  have n430 : ¬ th_MR G Γ9 H37 b43 := fun w => absurd (th_MR_lt hB.2.1 w) (by omega)
  have hB := th_NR_s hB hB1 u43 n430 (by omega) oq43
  have hIN := th_IN_s hIN u43 oq43
  have n43 : ¬ th_MR G Γ9 H43 b43 := fun w => n430 (th_MR_s u43 oq43 w)
  have lb43 : H0.size ≤ b43 := by omega
  have ho := tc_OBo ho oq43 (by omega)
  have k18xxxxxx := tm_MAo k18xxxxx oq43 (by have q9 := tm_lt k18xxxxx; omega)
  have n18xxxxxx : ¬ th_MR G Γ9 H43 b18 := fun w => n18xxxxx (th_MR_s u43 oq43 w)
  have k27xxxx := tm_MAo k27xxx oq43 (by have q9 := tm_lt k27xxx; omega)
  have n27xxxx : ¬ th_MR G Γ9 H43 b27 := fun w => n27xxx (th_MR_s u43 oq43 w)
  have k35xx := tm_MAo k35x oq43 (by have q9 := tm_lt k35x; omega)
  have n35xx : ¬ th_MR G Γ9 H43 b35 := fun w => n35x (th_MR_s u43 oq43 w)
  have hs : H43.size = H0.size + 12 := by omega
  have dd_b43_b18 : b18 ≠ b43 := by have q9 := lt_b18; omega
  have dd_b43_b27 : b27 ≠ b43 := by have q9 := lt_b27; omega
  have dd_b43_b35 : b35 ≠ b43 := by have q9 := lt_b35; omega
  have lt_b43 : b43 < H43.size := by omega
  have nr_b5_b43 : b5 ≠ b43 := by have q9 := lt_b5; omega
  have lt_b5 : b5 < H43.size := by omega
  have lt_b18 : b18 < H43.size := by omega
  have lt_b27 : b27 < H43.size := by omega
  have lt_b35 : b35 < H43.size := by omega
  have of_b43 : b43 = a0 + 12 := by omega
  refine tc_putF hC cf_X8 hB.1 ho (j := 4) (by decide) rfl hnm rfl rfl kf_X8_31 dX8_init_45 (fun H45 locs hB1 ho z45 oq45 => ?_)
  have hu := hB.1.2.2.2.2.1
  have hB := th_NR_s hB hB1 hu hB.2.2.1 (by omega) oq45
  have hIN := th_IN_s hIN hu oq45
  have k18xxxxxxx := tm_MAo k18xxxxxx oq45 (by have q9 := lb18; omega)
  have n18xxxxxxx : ¬ th_MR G Γ9 H45 b18 := fun w => n18xxxxxx (th_MR_s hu oq45 w)
  have k27xxxxx := tm_MAo k27xxxx oq45 (by have q9 := lb27; omega)
  have n27xxxxx : ¬ th_MR G Γ9 H45 b27 := fun w => n27xxxx (th_MR_s hu oq45 w)
  have k35xxx := tm_MAo k35xx oq45 (by have q9 := lb35; omega)
  have n35xxx : ¬ th_MR G Γ9 H45 b35 := fun w => n35xx (th_MR_s hu oq45 w)
  have k43x := tm_MAo k43 oq45 (by have q9 := lb43; omega)
  have n43x : ¬ th_MR G Γ9 H45 b43 := fun w => n43 (th_MR_s hu oq45 w)
  have hs : H45.size = H0.size + 12 := by omega
  have lt_b18 : b18 < H45.size := by omega
  have lt_b27 : b27 < H45.size := by omega
  have lt_b35 : b35 < H45.size := by omega
  have lt_b43 : b43 < H45.size := by omega
  have lt_b5 : b5 < H45.size := by omega
  refine lv_aload_n hx hb dX8_init_48 rfl (lv_at hl 0 rfl) ?_
  refine lv_iconst (v := 0) hx hb dX8_init_49 (by decide) ?_
  refine tc_put hC cf_X8 hB.1 ho (j := 5) (by decide) rfl rfl rfl kf_X8_34 dX8_init_50 (fun H50 locs hB1 ho z50 oq50 => ?_)
  have hu := hB.1.2.2.2.2.1
  have hB := th_NR_s hB hB1 hu hB.2.2.1 (by omega) oq50
  have hIN := th_IN_s hIN hu oq50
  have k18xxxxxxxx := tm_MAo k18xxxxxxx oq50 (by have q9 := lb18; omega)
  have n18xxxxxxxx : ¬ th_MR G Γ9 H50 b18 := fun w => n18xxxxxxx (th_MR_s hu oq50 w)
  have k27xxxxxx := tm_MAo k27xxxxx oq50 (by have q9 := lb27; omega)
  have n27xxxxxx : ¬ th_MR G Γ9 H50 b27 := fun w => n27xxxxx (th_MR_s hu oq50 w)
  have k35xxxx := tm_MAo k35xxx oq50 (by have q9 := lb35; omega)
  have n35xxxx : ¬ th_MR G Γ9 H50 b35 := fun w => n35xxx (th_MR_s hu oq50 w)
  have k43xx := tm_MAo k43x oq50 (by have q9 := lb43; omega)
  have n43xx : ¬ th_MR G Γ9 H50 b43 := fun w => n43x (th_MR_s hu oq50 w)
  have hs : H50.size = H0.size + 12 := by omega
  have lt_b18 : b18 < H50.size := by omega
  have lt_b27 : b27 < H50.size := by omega
  have lt_b35 : b35 < H50.size := by omega
  have lt_b43 : b43 < H50.size := by omega
  have lt_b5 : b5 < H50.size := by omega
  refine lv_aload_n hx hb dX8_init_53 rfl (lv_at hl 0 rfl) ?_
  refine lv_iconst (v := (-1)) hx hb dX8_init_54 (by decide) ?_
  refine tc_put hC cf_X8 hB.1 ho (j := 6) (by decide) rfl rfl rfl kf_X8_38 dX8_init_55 (fun H55 locs hB1 ho z55 oq55 => ?_)
  have hu := hB.1.2.2.2.2.1
  have hB := th_NR_s hB hB1 hu hB.2.2.1 (by omega) oq55
  have hIN := th_IN_s hIN hu oq55
  have k18xxxxxxxxx := tm_MAo k18xxxxxxxx oq55 (by have q9 := lb18; omega)
  have n18xxxxxxxxx : ¬ th_MR G Γ9 H55 b18 := fun w => n18xxxxxxxx (th_MR_s hu oq55 w)
  have k27xxxxxxx := tm_MAo k27xxxxxx oq55 (by have q9 := lb27; omega)
  have n27xxxxxxx : ¬ th_MR G Γ9 H55 b27 := fun w => n27xxxxxx (th_MR_s hu oq55 w)
  have k35xxxxx := tm_MAo k35xxxx oq55 (by have q9 := lb35; omega)
  have n35xxxxx : ¬ th_MR G Γ9 H55 b35 := fun w => n35xxxx (th_MR_s hu oq55 w)
  have k43xxx := tm_MAo k43xx oq55 (by have q9 := lb43; omega)
  have n43xxx : ¬ th_MR G Γ9 H55 b43 := fun w => n43xx (th_MR_s hu oq55 w)
  have hs : H55.size = H0.size + 12 := by omega
  have lt_b18 : b18 < H55.size := by omega
  have lt_b27 : b27 < H55.size := by omega
  have lt_b35 : b35 < H55.size := by omega
  have lt_b43 : b43 < H55.size := by omega
  have lt_b5 : b5 < H55.size := by omega
  refine lv_aload_n hx hb dX8_init_58 rfl (lv_at hl 0 rfl) ?_
  refine lv_iconst (v := 0) hx hb dX8_init_59 (by decide) ?_
  refine tc_put hC cf_X8 hB.1 ho (j := 7) (by decide) rfl rfl rfl kf_X8_41 dX8_init_60 (fun H60 locs hB1 ho z60 oq60 => ?_)
  have hu := hB.1.2.2.2.2.1
  have hB := th_NR_s hB hB1 hu hB.2.2.1 (by omega) oq60
  have hIN := th_IN_s hIN hu oq60
  have k18xxxxxxxxxx := tm_MAo k18xxxxxxxxx oq60 (by have q9 := lb18; omega)
  have n18xxxxxxxxxx : ¬ th_MR G Γ9 H60 b18 := fun w => n18xxxxxxxxx (th_MR_s hu oq60 w)
  have k27xxxxxxxx := tm_MAo k27xxxxxxx oq60 (by have q9 := lb27; omega)
  have n27xxxxxxxx : ¬ th_MR G Γ9 H60 b27 := fun w => n27xxxxxxx (th_MR_s hu oq60 w)
  have k35xxxxxx := tm_MAo k35xxxxx oq60 (by have q9 := lb35; omega)
  have n35xxxxxx : ¬ th_MR G Γ9 H60 b35 := fun w => n35xxxxx (th_MR_s hu oq60 w)
  have k43xxxx := tm_MAo k43xxx oq60 (by have q9 := lb43; omega)
  have n43xxxx : ¬ th_MR G Γ9 H60 b43 := fun w => n43xxx (th_MR_s hu oq60 w)
  have hs : H60.size = H0.size + 12 := by omega
  have lt_b18 : b18 < H60.size := by omega
  have lt_b27 : b27 < H60.size := by omega
  have lt_b35 : b35 < H60.size := by omega
  have lt_b43 : b43 < H60.size := by omega
  have lt_b5 : b5 < H60.size := by omega
  refine lv_iconst (v := 0) hx hb dX8_init_63 (by decide) ?_
  refine lv_istore_n (lv' := [(1, .int 0), (0, .ref a0)]) hx hb dX8_init_64 rfl hl (by decide) rfl (fun ls hl => ?_)
  refine lv_iload_n hx hb dX8_init_65 rfl (lv_at hl 0 rfl) ?_
  refine lv_bipush (v := 6) hx hb dX8_init_66 (by decide) ?_
  refine tr_icmp_ge (tgt := 90) hx hb dX8_init_68 (by decide) tk_0 tk_6 (fun c => absurd c (by decide)) (fun _ => ?_)
  refine lv_aload_n hx hb dX8_init_71 rfl (lv_at hl 1 rfl) ?_
  refine tc_get hC cf_X8 ho (j := 1) (by decide) rfl kf_X8_20 dX8_init_72 ?_
  refine lv_iload_n hx hb dX8_init_75 rfl (lv_at hl 0 rfl) ?_
  refine tc_new hC cf_X10 hB.1 kw_105 kw_107 kw_4 (Nat.le_of_ble_eq_true rfl) (Nat.le_of_ble_eq_true rfl) dX8_init_76 (fun b76 H76 eb76 zb76 oq76 hB1 kn => ?_)
  have n760 : ¬ th_MR G Γ9 H60 b76 := fun w => absurd (th_MR_lt hB.2.1 w) (by omega)
  have u76 := kn.1
  have hB := th_NR_s hB hB1 u76 n760 (by omega) oq76
  have hIN := th_IN_s hIN u76 oq76
  have nb : ¬ th_MR G Γ9 H76 b76 := fun w => n760 (th_MR_s u76 oq76 w)
  have ho := tc_OBo ho oq76 (by omega)
  have k18xxxxxxxxxxx := tm_MAo k18xxxxxxxxxx oq76 (by have q9 := lt_b18; omega)
  have n18xxxxxxxxxxx : ¬ th_MR G Γ9 H76 b18 := fun w => n18xxxxxxxxxx (th_MR_s u76 oq76 w)
  have k27xxxxxxxxx := tm_MAo k27xxxxxxxx oq76 (by have q9 := lt_b27; omega)
  have n27xxxxxxxxx : ¬ th_MR G Γ9 H76 b27 := fun w => n27xxxxxxxx (th_MR_s u76 oq76 w)
  have k35xxxxxxx := tm_MAo k35xxxxxx oq76 (by have q9 := lt_b35; omega)
  have n35xxxxxxx : ¬ th_MR G Γ9 H76 b35 := fun w => n35xxxxxx (th_MR_s u76 oq76 w)
  have k43xxxxx := tm_MAo k43xxxx oq76 (by have q9 := lt_b43; omega)
  have n43xxxxx : ¬ th_MR G Γ9 H76 b43 := fun w => n43xxxx (th_MR_s u76 oq76 w)
  have lbn : H0.size ≤ b76 := by omega
  have ltn : b76 < H76.size := by omega
  have szn : G.2.2 ≤ b76 := by have q9 := hB.1.2.2.2.2.2.1; have q8 := hB.1.2.2.2.2.2.2; omega
  have ne_b18 : b18 ≠ b76 := by have q9 := lt_b18; omega
  have nr_b76_b18 : b76 ≠ b18 := fun e => ne_b18 e.symm
  have ne_b27 : b27 ≠ b76 := by have q9 := lt_b27; omega
  have nr_b76_b27 : b76 ≠ b27 := fun e => ne_b27 e.symm
  have ne_b35 : b35 ≠ b76 := by have q9 := lt_b35; omega
  have nr_b76_b35 : b76 ≠ b35 := fun e => ne_b35 e.symm
  have ne_b43 : b43 ≠ b76 := by have q9 := lt_b43; omega
  have nr_b76_b43 : b76 ≠ b43 := fun e => ne_b43 e.symm
  have ne_b5 : b5 ≠ b76 := by have q9 := lt_b5; omega
  have hs : H76.size = H0.size + 13 := by omega
  have lt_b18 : b18 < H76.size := by omega
  have lt_b27 : b27 < H76.size := by omega
  have lt_b35 : b35 < H76.size := by omega
  have lt_b43 : b43 < H76.size := by omega
  have lt_b5 : b5 < H76.size := by omega
  have of_b76 : b76 = a0 + 13 := by omega
  refine lv_dup hx hb dX8_init_79 rfl ?_
  refine th_call (th_runI (As := []) (rest := [.ref b76, .int 0, .ref b18]) hC mf_X10_init km_X8_44 im_X10_init rfl (c_X10_init_i l G Γ9 H76 hB.1.1 hB.2.1 b76 kn szn ltn nb (by omega)) rfl rfl ⟨Nat.le_of_ble_eq_true rfl, Nat.le_of_ble_eq_true rfl⟩ rfl hl.1 rfl (Nat.le_of_ble_eq_true rfl) dX8_init_80 ⟨Nat.le_of_ble_eq_true rfl, Nat.le_of_ble_eq_true rfl⟩) hB.1.2.1 (fun v80 H80 locs hp hz hS => ?_)
  obtain ⟨rfl, Γ80, hy, hi, hzn⟩ := hp
  have hB := th_NR_c hB hy lbn hS
  have hIN := th_IN_c hIN hy hi
  have ho := tc_OBc ho hy (by omega) (by omega)
  have n18xxxxxxxxxxxx : ¬ th_MR G Γ80 H80 b18 := fun w => (hy.2.2.2.1 _ w).elim n18xxxxxxxxxxx (fun w => absurd w (by have q9 := lt_b18; omega))
  have k18xxxxxxxxxxxx := tc_MAc k18xxxxxxxxxxx hy ne_b18
  have n27xxxxxxxxxx : ¬ th_MR G Γ80 H80 b27 := fun w => (hy.2.2.2.1 _ w).elim n27xxxxxxxxx (fun w => absurd w (by have q9 := lt_b27; omega))
  have k27xxxxxxxxxx := tc_MAc k27xxxxxxxxx hy ne_b27
  have n35xxxxxxxx : ¬ th_MR G Γ80 H80 b35 := fun w => (hy.2.2.2.1 _ w).elim n35xxxxxxx (fun w => absurd w (by have q9 := lt_b35; omega))
  have k35xxxxxxxx := tc_MAc k35xxxxxxx hy ne_b35
  have n43xxxxxx : ¬ th_MR G Γ80 H80 b43 := fun w => (hy.2.2.2.1 _ w).elim n43xxxxx (fun w => absurd w (by have q9 := lt_b43; omega))
  have k43xxxxxx := tc_MAc k43xxxxx hy ne_b43
  have hr_b5x := (hy.1.2.2 b5 lt_b5 ne_b5).1.trans hr_b5
  have hr_b76 := hy.2.2.1
  have hs : H80.size = H0.size + 15 := by omega
  have lt_b76 : b76 < H80.size := by omega
  have lt_b18 : b18 < H80.size := by omega
  have lt_b27 : b27 < H80.size := by omega
  have lt_b35 : b35 < H80.size := by omega
  have lt_b43 : b43 < H80.size := by omega
  have lt_b5 : b5 < H80.size := by omega
  have hN := th_new_c hN hy
  refine W.eq (g2 := F0 m 83 ls [.ref b76, .int 0, .ref b18]) rfl ?_
  refine tc_aast (x := 0) hC hB.1 k18xxxxxxxxxxxx lb18 rfl hr_b76 ro_39 rfl tk_0 (by decide) (by decide) dX8_init_83 (fun H83 locs hB1 kq z83 oq83 => ?_)
  have hq := k18xxxxxxxxxxxx.2.1
  have hB := th_NR_s hB hB1 hq n18xxxxxxxxxxxx (by omega) oq83
  have hIN := th_IN_s hIN hq oq83
  have n18xxxxxxxxxxxxx : ¬ th_MR G Γ80 H83 b18 := fun w => n18xxxxxxxxxxxx (th_MR_s hq oq83 w)
  have ho := tc_OBo ho oq83 (by have q9 := lb18; omega)
  have k27xxxxxxxxxxx := tm_MAo k27xxxxxxxxxx oq83 (fun e => dd_b27_b18 e.symm)
  have n27xxxxxxxxxxx : ¬ th_MR G Γ80 H83 b27 := fun w => n27xxxxxxxxxx (th_MR_s hq oq83 w)
  have k35xxxxxxxxx := tm_MAo k35xxxxxxxx oq83 (fun e => dd_b35_b18 e.symm)
  have n35xxxxxxxxx : ¬ th_MR G Γ80 H83 b35 := fun w => n35xxxxxxxx (th_MR_s hq oq83 w)
  have k43xxxxxxx := tm_MAo k43xxxxxx oq83 (fun e => dd_b43_b18 e.symm)
  have n43xxxxxxx : ¬ th_MR G Γ80 H83 b43 := fun w => n43xxxxxx (th_MR_s hq oq83 w)
  have kz83 := kq
  have hs : H83.size = H0.size + 15 := by omega
  have lt_b18 : b18 < H83.size := by omega
  have lt_b27 : b27 < H83.size := by omega
  have lt_b35 : b35 < H83.size := by omega
  have lt_b43 : b43 < H83.size := by omega
  have lt_b5 : b5 < H83.size := by omega
  have lt_b76 : b76 < H83.size := by omega
  refine tr_iinc (fun z84_1 => [(1, .int z84_1), (0, .ref a0)]) hx hb dX8_init_84 hl (k := 0) rfl tk_0 tk_1 (by decide) (by decide) (by decide) (fun _ => rfl) (fun z84_1 ls ez84_1 hl => ?_)
  have pz84_1 : z84_1.toInt = 1 := ez84_1
  refine lv_goto (tgt := 65) hx hb dX8_init_87 (by decide) ?_
  refine lv_iload_n hx hb dX8_init_65 rfl (lv_at hl 0 rfl) ?_
  refine lv_bipush (v := 6) hx hb dX8_init_66 (by decide) ?_
  refine tr_icmp_ge (tgt := 90) hx hb dX8_init_68 (by decide) pz84_1 tk_6 (fun c => absurd c (by decide)) (fun _ => ?_)
  refine lv_aload_n hx hb dX8_init_71 rfl (lv_at hl 1 rfl) ?_
  refine tc_get hC cf_X8 ho (j := 1) (by decide) rfl kf_X8_20 dX8_init_72 ?_
  refine lv_iload_n hx hb dX8_init_75 rfl (lv_at hl 0 rfl) ?_
  refine tc_new hC cf_X10 hB.1 kw_105 kw_107 kw_4 (Nat.le_of_ble_eq_true rfl) (Nat.le_of_ble_eq_true rfl) dX8_init_76 (fun b76_1 H76_1 eb76 zb76 oq76 hB1 kn => ?_)
  have n760 : ¬ th_MR G Γ80 H83 b76_1 := fun w => absurd (th_MR_lt hB.2.1 w) (by omega)
  have u76 := kn.1
  have hB := th_NR_s hB hB1 u76 n760 (by omega) oq76
  have hIN := th_IN_s hIN u76 oq76
  have nb : ¬ th_MR G Γ80 H76_1 b76_1 := fun w => n760 (th_MR_s u76 oq76 w)
  have ho := tc_OBo ho oq76 (by omega)
  have kz83x := tm_MAo kz83 oq76 (by have q9 := lt_b18; omega)
  have n18xxxxxxxxxxxxxx : ¬ th_MR G Γ80 H76_1 b18 := fun w => n18xxxxxxxxxxxxx (th_MR_s u76 oq76 w)
  have k27xxxxxxxxxxxx := tm_MAo k27xxxxxxxxxxx oq76 (by have q9 := lt_b27; omega)
  have n27xxxxxxxxxxxx : ¬ th_MR G Γ80 H76_1 b27 := fun w => n27xxxxxxxxxxx (th_MR_s u76 oq76 w)
  have k35xxxxxxxxxx := tm_MAo k35xxxxxxxxx oq76 (by have q9 := lt_b35; omega)
  have n35xxxxxxxxxx : ¬ th_MR G Γ80 H76_1 b35 := fun w => n35xxxxxxxxx (th_MR_s u76 oq76 w)
  have k43xxxxxxxx := tm_MAo k43xxxxxxx oq76 (by have q9 := lt_b43; omega)
  have n43xxxxxxxx : ¬ th_MR G Γ80 H76_1 b43 := fun w => n43xxxxxxx (th_MR_s u76 oq76 w)
  have lbn : H0.size ≤ b76_1 := by omega
  have ltn : b76_1 < H76_1.size := by omega
  have szn : G.2.2 ≤ b76_1 := by have q9 := hB.1.2.2.2.2.2.1; have q8 := hB.1.2.2.2.2.2.2; omega
  have ne_b18 : b18 ≠ b76_1 := by have q9 := lt_b18; omega
  have nr_b76_1_b18 : b76_1 ≠ b18 := fun e => ne_b18 e.symm
  have ne_b27 : b27 ≠ b76_1 := by have q9 := lt_b27; omega
  have nr_b76_1_b27 : b76_1 ≠ b27 := fun e => ne_b27 e.symm
  have ne_b35 : b35 ≠ b76_1 := by have q9 := lt_b35; omega
  have nr_b76_1_b35 : b76_1 ≠ b35 := fun e => ne_b35 e.symm
  have ne_b43 : b43 ≠ b76_1 := by have q9 := lt_b43; omega
  have nr_b76_1_b43 : b76_1 ≠ b43 := fun e => ne_b43 e.symm
  have ne_b5 : b5 ≠ b76_1 := by have q9 := lt_b5; omega
  have ne_b76 : b76 ≠ b76_1 := by have q9 := lt_b76; omega
  have hs : H76_1.size = H0.size + 16 := by omega
  have lt_b18 : b18 < H76_1.size := by omega
  have lt_b27 : b27 < H76_1.size := by omega
  have lt_b35 : b35 < H76_1.size := by omega
  have lt_b43 : b43 < H76_1.size := by omega
  have lt_b5 : b5 < H76_1.size := by omega
  have lt_b76 : b76 < H76_1.size := by omega
  have of_b76_1 : b76_1 = a0 + 16 := by omega
  refine lv_dup hx hb dX8_init_79 rfl ?_
  refine th_call (th_runI (As := []) (rest := [.ref b76_1, .int z84_1, .ref b18]) hC mf_X10_init km_X8_44 im_X10_init rfl (c_X10_init_i l G Γ80 H76_1 hB.1.1 hB.2.1 b76_1 kn szn ltn nb (by omega)) rfl rfl ⟨Nat.le_of_ble_eq_true rfl, Nat.le_of_ble_eq_true rfl⟩ rfl hl.1 rfl (Nat.le_of_ble_eq_true rfl) dX8_init_80 ⟨Nat.le_of_ble_eq_true rfl, Nat.le_of_ble_eq_true rfl⟩) hB.1.2.1 (fun v80 H80_1 locs hp hz hS => ?_)
  obtain ⟨rfl, Γ80_1, hy, hi, hzn⟩ := hp
  have hB := th_NR_c hB hy lbn hS
  have hIN := th_IN_c hIN hy hi
  have ho := tc_OBc ho hy (by omega) (by omega)
  have n18xxxxxxxxxxxxxxx : ¬ th_MR G Γ80_1 H80_1 b18 := fun w => (hy.2.2.2.1 _ w).elim n18xxxxxxxxxxxxxx (fun w => absurd w (by have q9 := lt_b18; omega))
  have kz83xx := tc_MAc kz83x hy ne_b18
  have n27xxxxxxxxxxxxx : ¬ th_MR G Γ80_1 H80_1 b27 := fun w => (hy.2.2.2.1 _ w).elim n27xxxxxxxxxxxx (fun w => absurd w (by have q9 := lt_b27; omega))
  have k27xxxxxxxxxxxxx := tc_MAc k27xxxxxxxxxxxx hy ne_b27
  have n35xxxxxxxxxxx : ¬ th_MR G Γ80_1 H80_1 b35 := fun w => (hy.2.2.2.1 _ w).elim n35xxxxxxxxxx (fun w => absurd w (by have q9 := lt_b35; omega))
  have k35xxxxxxxxxxx := tc_MAc k35xxxxxxxxxx hy ne_b35
  have n43xxxxxxxxx : ¬ th_MR G Γ80_1 H80_1 b43 := fun w => (hy.2.2.2.1 _ w).elim n43xxxxxxxx (fun w => absurd w (by have q9 := lt_b43; omega))
  have k43xxxxxxxxx := tc_MAc k43xxxxxxxx hy ne_b43
  have hr_b5xx := (hy.1.2.2 b5 lt_b5 ne_b5).1.trans hr_b5x
  have hr_b76x := (hy.1.2.2 b76 lt_b76 ne_b76).1.trans hr_b76
  have hr_b76_1 := hy.2.2.1
  have hs : H80_1.size = H0.size + 18 := by omega
  have lt_b76_1 : b76_1 < H80_1.size := by omega
  have lt_b18 : b18 < H80_1.size := by omega
  have lt_b27 : b27 < H80_1.size := by omega
  have lt_b35 : b35 < H80_1.size := by omega
  have lt_b43 : b43 < H80_1.size := by omega
  have lt_b5 : b5 < H80_1.size := by omega
  have lt_b76 : b76 < H80_1.size := by omega
  have hN := th_new_c hN hy
  refine W.eq (g2 := F0 m 83 ls [.ref b76_1, .int z84_1, .ref b18]) rfl ?_
  refine tc_aast (x := 1) hC hB.1 kz83xx lb18 rfl hr_b76_1 ro_39 rfl pz84_1 (by decide) (by decide) dX8_init_83 (fun H83_1 locs hB1 kq z83 oq83 => ?_)
  have hq := kz83xx.2.1
  have hB := th_NR_s hB hB1 hq n18xxxxxxxxxxxxxxx (by omega) oq83
  have hIN := th_IN_s hIN hq oq83
  have n18xxxxxxxxxxxxxxxx : ¬ th_MR G Γ80_1 H83_1 b18 := fun w => n18xxxxxxxxxxxxxxx (th_MR_s hq oq83 w)
  have ho := tc_OBo ho oq83 (by have q9 := lb18; omega)
  have k27xxxxxxxxxxxxxx := tm_MAo k27xxxxxxxxxxxxx oq83 (fun e => dd_b27_b18 e.symm)
  have n27xxxxxxxxxxxxxx : ¬ th_MR G Γ80_1 H83_1 b27 := fun w => n27xxxxxxxxxxxxx (th_MR_s hq oq83 w)
  have k35xxxxxxxxxxxx := tm_MAo k35xxxxxxxxxxx oq83 (fun e => dd_b35_b18 e.symm)
  have n35xxxxxxxxxxxx : ¬ th_MR G Γ80_1 H83_1 b35 := fun w => n35xxxxxxxxxxx (th_MR_s hq oq83 w)
  have k43xxxxxxxxxx := tm_MAo k43xxxxxxxxx oq83 (fun e => dd_b43_b18 e.symm)
  have n43xxxxxxxxxx : ¬ th_MR G Γ80_1 H83_1 b43 := fun w => n43xxxxxxxxx (th_MR_s hq oq83 w)
  have kz83_1 := kq
  have hs : H83_1.size = H0.size + 18 := by omega
  have lt_b18 : b18 < H83_1.size := by omega
  have lt_b27 : b27 < H83_1.size := by omega
  have lt_b35 : b35 < H83_1.size := by omega
  have lt_b43 : b43 < H83_1.size := by omega
  have lt_b5 : b5 < H83_1.size := by omega
  have lt_b76 : b76 < H83_1.size := by omega
  have lt_b76_1 : b76_1 < H83_1.size := by omega
  refine tr_iinc (fun z84_2 => [(1, .int z84_2), (0, .ref a0)]) hx hb dX8_init_84 hl (k := 0) rfl pz84_1 tk_1 (by decide) (by decide) (by decide) (fun _ => rfl) (fun z84_2 ls ez84_2 hl => ?_)
  have pz84_2 : z84_2.toInt = 2 := ez84_2
  refine lv_goto (tgt := 65) hx hb dX8_init_87 (by decide) ?_
  refine lv_iload_n hx hb dX8_init_65 rfl (lv_at hl 0 rfl) ?_
  refine lv_bipush (v := 6) hx hb dX8_init_66 (by decide) ?_
  refine tr_icmp_ge (tgt := 90) hx hb dX8_init_68 (by decide) pz84_2 tk_6 (fun c => absurd c (by decide)) (fun _ => ?_)
  refine lv_aload_n hx hb dX8_init_71 rfl (lv_at hl 1 rfl) ?_
  refine tc_get hC cf_X8 ho (j := 1) (by decide) rfl kf_X8_20 dX8_init_72 ?_
  refine lv_iload_n hx hb dX8_init_75 rfl (lv_at hl 0 rfl) ?_
  refine tc_new hC cf_X10 hB.1 kw_105 kw_107 kw_4 (Nat.le_of_ble_eq_true rfl) (Nat.le_of_ble_eq_true rfl) dX8_init_76 (fun b76_2 H76_2 eb76 zb76 oq76 hB1 kn => ?_)
  have n760 : ¬ th_MR G Γ80_1 H83_1 b76_2 := fun w => absurd (th_MR_lt hB.2.1 w) (by omega)
  have u76 := kn.1
  have hB := th_NR_s hB hB1 u76 n760 (by omega) oq76
  have hIN := th_IN_s hIN u76 oq76
  have nb : ¬ th_MR G Γ80_1 H76_2 b76_2 := fun w => n760 (th_MR_s u76 oq76 w)
  have ho := tc_OBo ho oq76 (by omega)
  have kz83_1x := tm_MAo kz83_1 oq76 (by have q9 := lt_b18; omega)
  have n18xxxxxxxxxxxxxxxxx : ¬ th_MR G Γ80_1 H76_2 b18 := fun w => n18xxxxxxxxxxxxxxxx (th_MR_s u76 oq76 w)
  have k27xxxxxxxxxxxxxxx := tm_MAo k27xxxxxxxxxxxxxx oq76 (by have q9 := lt_b27; omega)
  have n27xxxxxxxxxxxxxxx : ¬ th_MR G Γ80_1 H76_2 b27 := fun w => n27xxxxxxxxxxxxxx (th_MR_s u76 oq76 w)
  have k35xxxxxxxxxxxxx := tm_MAo k35xxxxxxxxxxxx oq76 (by have q9 := lt_b35; omega)
  have n35xxxxxxxxxxxxx : ¬ th_MR G Γ80_1 H76_2 b35 := fun w => n35xxxxxxxxxxxx (th_MR_s u76 oq76 w)
  have k43xxxxxxxxxxx := tm_MAo k43xxxxxxxxxx oq76 (by have q9 := lt_b43; omega)
  have n43xxxxxxxxxxx : ¬ th_MR G Γ80_1 H76_2 b43 := fun w => n43xxxxxxxxxx (th_MR_s u76 oq76 w)
  have lbn : H0.size ≤ b76_2 := by omega
  have ltn : b76_2 < H76_2.size := by omega
  have szn : G.2.2 ≤ b76_2 := by have q9 := hB.1.2.2.2.2.2.1; have q8 := hB.1.2.2.2.2.2.2; omega
  have ne_b18 : b18 ≠ b76_2 := by have q9 := lt_b18; omega
  have nr_b76_2_b18 : b76_2 ≠ b18 := fun e => ne_b18 e.symm
  have ne_b27 : b27 ≠ b76_2 := by have q9 := lt_b27; omega
  have nr_b76_2_b27 : b76_2 ≠ b27 := fun e => ne_b27 e.symm
  have ne_b35 : b35 ≠ b76_2 := by have q9 := lt_b35; omega
  have nr_b76_2_b35 : b76_2 ≠ b35 := fun e => ne_b35 e.symm
  have ne_b43 : b43 ≠ b76_2 := by have q9 := lt_b43; omega
  have nr_b76_2_b43 : b76_2 ≠ b43 := fun e => ne_b43 e.symm
  have ne_b5 : b5 ≠ b76_2 := by have q9 := lt_b5; omega
  have ne_b76 : b76 ≠ b76_2 := by have q9 := lt_b76; omega
  have ne_b76_1 : b76_1 ≠ b76_2 := by have q9 := lt_b76_1; omega
  have hs : H76_2.size = H0.size + 19 := by omega
  have lt_b18 : b18 < H76_2.size := by omega
  have lt_b27 : b27 < H76_2.size := by omega
  have lt_b35 : b35 < H76_2.size := by omega
  have lt_b43 : b43 < H76_2.size := by omega
  have lt_b5 : b5 < H76_2.size := by omega
  have lt_b76 : b76 < H76_2.size := by omega
  have lt_b76_1 : b76_1 < H76_2.size := by omega
  have of_b76_2 : b76_2 = a0 + 19 := by omega
  refine lv_dup hx hb dX8_init_79 rfl ?_
  refine th_call (th_runI (As := []) (rest := [.ref b76_2, .int z84_2, .ref b18]) hC mf_X10_init km_X8_44 im_X10_init rfl (c_X10_init_i l G Γ80_1 H76_2 hB.1.1 hB.2.1 b76_2 kn szn ltn nb (by omega)) rfl rfl ⟨Nat.le_of_ble_eq_true rfl, Nat.le_of_ble_eq_true rfl⟩ rfl hl.1 rfl (Nat.le_of_ble_eq_true rfl) dX8_init_80 ⟨Nat.le_of_ble_eq_true rfl, Nat.le_of_ble_eq_true rfl⟩) hB.1.2.1 (fun v80 H80_2 locs hp hz hS => ?_)
  obtain ⟨rfl, Γ80_2, hy, hi, hzn⟩ := hp
  have hB := th_NR_c hB hy lbn hS
  have hIN := th_IN_c hIN hy hi
  have ho := tc_OBc ho hy (by omega) (by omega)
  have n18xxxxxxxxxxxxxxxxxx : ¬ th_MR G Γ80_2 H80_2 b18 := fun w => (hy.2.2.2.1 _ w).elim n18xxxxxxxxxxxxxxxxx (fun w => absurd w (by have q9 := lt_b18; omega))
  have kz83_1xx := tc_MAc kz83_1x hy ne_b18
  have n27xxxxxxxxxxxxxxxx : ¬ th_MR G Γ80_2 H80_2 b27 := fun w => (hy.2.2.2.1 _ w).elim n27xxxxxxxxxxxxxxx (fun w => absurd w (by have q9 := lt_b27; omega))
  have k27xxxxxxxxxxxxxxxx := tc_MAc k27xxxxxxxxxxxxxxx hy ne_b27
  have n35xxxxxxxxxxxxxx : ¬ th_MR G Γ80_2 H80_2 b35 := fun w => (hy.2.2.2.1 _ w).elim n35xxxxxxxxxxxxx (fun w => absurd w (by have q9 := lt_b35; omega))
  have k35xxxxxxxxxxxxxx := tc_MAc k35xxxxxxxxxxxxx hy ne_b35
  have n43xxxxxxxxxxxx : ¬ th_MR G Γ80_2 H80_2 b43 := fun w => (hy.2.2.2.1 _ w).elim n43xxxxxxxxxxx (fun w => absurd w (by have q9 := lt_b43; omega))
  have k43xxxxxxxxxxxx := tc_MAc k43xxxxxxxxxxx hy ne_b43
  have hr_b5xxx := (hy.1.2.2 b5 lt_b5 ne_b5).1.trans hr_b5xx
  have hr_b76xx := (hy.1.2.2 b76 lt_b76 ne_b76).1.trans hr_b76x
  have hr_b76_1x := (hy.1.2.2 b76_1 lt_b76_1 ne_b76_1).1.trans hr_b76_1
  have hr_b76_2 := hy.2.2.1
  have hs : H80_2.size = H0.size + 21 := by omega
  have lt_b76_2 : b76_2 < H80_2.size := by omega
  have lt_b18 : b18 < H80_2.size := by omega
  have lt_b27 : b27 < H80_2.size := by omega
  have lt_b35 : b35 < H80_2.size := by omega
  have lt_b43 : b43 < H80_2.size := by omega
  have lt_b5 : b5 < H80_2.size := by omega
  have lt_b76 : b76 < H80_2.size := by omega
  have lt_b76_1 : b76_1 < H80_2.size := by omega
  have hN := th_new_c hN hy
  refine W.eq (g2 := F0 m 83 ls [.ref b76_2, .int z84_2, .ref b18]) rfl ?_
  refine tc_aast (x := 2) hC hB.1 kz83_1xx lb18 rfl hr_b76_2 ro_39 rfl pz84_2 (by decide) (by decide) dX8_init_83 (fun H83_2 locs hB1 kq z83 oq83 => ?_)
  have hq := kz83_1xx.2.1
  have hB := th_NR_s hB hB1 hq n18xxxxxxxxxxxxxxxxxx (by omega) oq83
  have hIN := th_IN_s hIN hq oq83
  have n18xxxxxxxxxxxxxxxxxxx : ¬ th_MR G Γ80_2 H83_2 b18 := fun w => n18xxxxxxxxxxxxxxxxxx (th_MR_s hq oq83 w)
  have ho := tc_OBo ho oq83 (by have q9 := lb18; omega)
  have k27xxxxxxxxxxxxxxxxx := tm_MAo k27xxxxxxxxxxxxxxxx oq83 (fun e => dd_b27_b18 e.symm)
  have n27xxxxxxxxxxxxxxxxx : ¬ th_MR G Γ80_2 H83_2 b27 := fun w => n27xxxxxxxxxxxxxxxx (th_MR_s hq oq83 w)
  have k35xxxxxxxxxxxxxxx := tm_MAo k35xxxxxxxxxxxxxx oq83 (fun e => dd_b35_b18 e.symm)
  have n35xxxxxxxxxxxxxxx : ¬ th_MR G Γ80_2 H83_2 b35 := fun w => n35xxxxxxxxxxxxxx (th_MR_s hq oq83 w)
  have k43xxxxxxxxxxxxx := tm_MAo k43xxxxxxxxxxxx oq83 (fun e => dd_b43_b18 e.symm)
  have n43xxxxxxxxxxxxx : ¬ th_MR G Γ80_2 H83_2 b43 := fun w => n43xxxxxxxxxxxx (th_MR_s hq oq83 w)
  have kz83_2 := kq
  have hs : H83_2.size = H0.size + 21 := by omega
  have lt_b18 : b18 < H83_2.size := by omega
  have lt_b27 : b27 < H83_2.size := by omega
  have lt_b35 : b35 < H83_2.size := by omega
  have lt_b43 : b43 < H83_2.size := by omega
  have lt_b5 : b5 < H83_2.size := by omega
  have lt_b76 : b76 < H83_2.size := by omega
  have lt_b76_1 : b76_1 < H83_2.size := by omega
  have lt_b76_2 : b76_2 < H83_2.size := by omega
  refine tr_iinc (fun z84_3 => [(1, .int z84_3), (0, .ref a0)]) hx hb dX8_init_84 hl (k := 0) rfl pz84_2 tk_1 (by decide) (by decide) (by decide) (fun _ => rfl) (fun z84_3 ls ez84_3 hl => ?_)
  have pz84_3 : z84_3.toInt = 3 := ez84_3
  refine lv_goto (tgt := 65) hx hb dX8_init_87 (by decide) ?_
  refine lv_iload_n hx hb dX8_init_65 rfl (lv_at hl 0 rfl) ?_
  refine lv_bipush (v := 6) hx hb dX8_init_66 (by decide) ?_
  refine tr_icmp_ge (tgt := 90) hx hb dX8_init_68 (by decide) pz84_3 tk_6 (fun c => absurd c (by decide)) (fun _ => ?_)
  refine lv_aload_n hx hb dX8_init_71 rfl (lv_at hl 1 rfl) ?_
  refine tc_get hC cf_X8 ho (j := 1) (by decide) rfl kf_X8_20 dX8_init_72 ?_
  refine lv_iload_n hx hb dX8_init_75 rfl (lv_at hl 0 rfl) ?_
  refine tc_new hC cf_X10 hB.1 kw_105 kw_107 kw_4 (Nat.le_of_ble_eq_true rfl) (Nat.le_of_ble_eq_true rfl) dX8_init_76 (fun b76_3 H76_3 eb76 zb76 oq76 hB1 kn => ?_)
  have n760 : ¬ th_MR G Γ80_2 H83_2 b76_3 := fun w => absurd (th_MR_lt hB.2.1 w) (by omega)
  have u76 := kn.1
  have hB := th_NR_s hB hB1 u76 n760 (by omega) oq76
  have hIN := th_IN_s hIN u76 oq76
  have nb : ¬ th_MR G Γ80_2 H76_3 b76_3 := fun w => n760 (th_MR_s u76 oq76 w)
  have ho := tc_OBo ho oq76 (by omega)
  have kz83_2x := tm_MAo kz83_2 oq76 (by have q9 := lt_b18; omega)
  have n18xxxxxxxxxxxxxxxxxxxx : ¬ th_MR G Γ80_2 H76_3 b18 := fun w => n18xxxxxxxxxxxxxxxxxxx (th_MR_s u76 oq76 w)
  have k27xxxxxxxxxxxxxxxxxx := tm_MAo k27xxxxxxxxxxxxxxxxx oq76 (by have q9 := lt_b27; omega)
  have n27xxxxxxxxxxxxxxxxxx : ¬ th_MR G Γ80_2 H76_3 b27 := fun w => n27xxxxxxxxxxxxxxxxx (th_MR_s u76 oq76 w)
  have k35xxxxxxxxxxxxxxxx := tm_MAo k35xxxxxxxxxxxxxxx oq76 (by have q9 := lt_b35; omega)
  have n35xxxxxxxxxxxxxxxx : ¬ th_MR G Γ80_2 H76_3 b35 := fun w => n35xxxxxxxxxxxxxxx (th_MR_s u76 oq76 w)
  have k43xxxxxxxxxxxxxx := tm_MAo k43xxxxxxxxxxxxx oq76 (by have q9 := lt_b43; omega)
  have n43xxxxxxxxxxxxxx : ¬ th_MR G Γ80_2 H76_3 b43 := fun w => n43xxxxxxxxxxxxx (th_MR_s u76 oq76 w)
  have lbn : H0.size ≤ b76_3 := by omega
  have ltn : b76_3 < H76_3.size := by omega
  have szn : G.2.2 ≤ b76_3 := by have q9 := hB.1.2.2.2.2.2.1; have q8 := hB.1.2.2.2.2.2.2; omega
  have ne_b18 : b18 ≠ b76_3 := by have q9 := lt_b18; omega
  have nr_b76_3_b18 : b76_3 ≠ b18 := fun e => ne_b18 e.symm
  have ne_b27 : b27 ≠ b76_3 := by have q9 := lt_b27; omega
  have nr_b76_3_b27 : b76_3 ≠ b27 := fun e => ne_b27 e.symm
  have ne_b35 : b35 ≠ b76_3 := by have q9 := lt_b35; omega
  have nr_b76_3_b35 : b76_3 ≠ b35 := fun e => ne_b35 e.symm
  have ne_b43 : b43 ≠ b76_3 := by have q9 := lt_b43; omega
  have nr_b76_3_b43 : b76_3 ≠ b43 := fun e => ne_b43 e.symm
  have ne_b5 : b5 ≠ b76_3 := by have q9 := lt_b5; omega
  have ne_b76 : b76 ≠ b76_3 := by have q9 := lt_b76; omega
  have ne_b76_1 : b76_1 ≠ b76_3 := by have q9 := lt_b76_1; omega
  have ne_b76_2 : b76_2 ≠ b76_3 := by have q9 := lt_b76_2; omega
  have hs : H76_3.size = H0.size + 22 := by omega
  have lt_b18 : b18 < H76_3.size := by omega
  have lt_b27 : b27 < H76_3.size := by omega
  have lt_b35 : b35 < H76_3.size := by omega
  have lt_b43 : b43 < H76_3.size := by omega
  have lt_b5 : b5 < H76_3.size := by omega
  have lt_b76 : b76 < H76_3.size := by omega
  have lt_b76_1 : b76_1 < H76_3.size := by omega
  have lt_b76_2 : b76_2 < H76_3.size := by omega
  have of_b76_3 : b76_3 = a0 + 22 := by omega
  refine lv_dup hx hb dX8_init_79 rfl ?_
  refine th_call (th_runI (As := []) (rest := [.ref b76_3, .int z84_3, .ref b18]) hC mf_X10_init km_X8_44 im_X10_init rfl (c_X10_init_i l G Γ80_2 H76_3 hB.1.1 hB.2.1 b76_3 kn szn ltn nb (by omega)) rfl rfl ⟨Nat.le_of_ble_eq_true rfl, Nat.le_of_ble_eq_true rfl⟩ rfl hl.1 rfl (Nat.le_of_ble_eq_true rfl) dX8_init_80 ⟨Nat.le_of_ble_eq_true rfl, Nat.le_of_ble_eq_true rfl⟩) hB.1.2.1 (fun v80 H80_3 locs hp hz hS => ?_)
  obtain ⟨rfl, Γ80_3, hy, hi, hzn⟩ := hp
  have hB := th_NR_c hB hy lbn hS
  have hIN := th_IN_c hIN hy hi
  have ho := tc_OBc ho hy (by omega) (by omega)
  have n18xxxxxxxxxxxxxxxxxxxxx : ¬ th_MR G Γ80_3 H80_3 b18 := fun w => (hy.2.2.2.1 _ w).elim n18xxxxxxxxxxxxxxxxxxxx (fun w => absurd w (by have q9 := lt_b18; omega))
  have kz83_2xx := tc_MAc kz83_2x hy ne_b18
  have n27xxxxxxxxxxxxxxxxxxx : ¬ th_MR G Γ80_3 H80_3 b27 := fun w => (hy.2.2.2.1 _ w).elim n27xxxxxxxxxxxxxxxxxx (fun w => absurd w (by have q9 := lt_b27; omega))
  have k27xxxxxxxxxxxxxxxxxxx := tc_MAc k27xxxxxxxxxxxxxxxxxx hy ne_b27
  have n35xxxxxxxxxxxxxxxxx : ¬ th_MR G Γ80_3 H80_3 b35 := fun w => (hy.2.2.2.1 _ w).elim n35xxxxxxxxxxxxxxxx (fun w => absurd w (by have q9 := lt_b35; omega))
  have k35xxxxxxxxxxxxxxxxx := tc_MAc k35xxxxxxxxxxxxxxxx hy ne_b35
  have n43xxxxxxxxxxxxxxx : ¬ th_MR G Γ80_3 H80_3 b43 := fun w => (hy.2.2.2.1 _ w).elim n43xxxxxxxxxxxxxx (fun w => absurd w (by have q9 := lt_b43; omega))
  have k43xxxxxxxxxxxxxxx := tc_MAc k43xxxxxxxxxxxxxx hy ne_b43
  have hr_b5xxxx := (hy.1.2.2 b5 lt_b5 ne_b5).1.trans hr_b5xxx
  have hr_b76xxx := (hy.1.2.2 b76 lt_b76 ne_b76).1.trans hr_b76xx
  have hr_b76_1xx := (hy.1.2.2 b76_1 lt_b76_1 ne_b76_1).1.trans hr_b76_1x
  have hr_b76_2x := (hy.1.2.2 b76_2 lt_b76_2 ne_b76_2).1.trans hr_b76_2
  have hr_b76_3 := hy.2.2.1
  have hs : H80_3.size = H0.size + 24 := by omega
  have lt_b76_3 : b76_3 < H80_3.size := by omega
  have lt_b18 : b18 < H80_3.size := by omega
  have lt_b27 : b27 < H80_3.size := by omega
  have lt_b35 : b35 < H80_3.size := by omega
  have lt_b43 : b43 < H80_3.size := by omega
  have lt_b5 : b5 < H80_3.size := by omega
  have lt_b76 : b76 < H80_3.size := by omega
  have lt_b76_1 : b76_1 < H80_3.size := by omega
  have lt_b76_2 : b76_2 < H80_3.size := by omega
  have hN := th_new_c hN hy
  refine W.eq (g2 := F0 m 83 ls [.ref b76_3, .int z84_3, .ref b18]) rfl ?_
  refine tc_aast (x := 3) hC hB.1 kz83_2xx lb18 rfl hr_b76_3 ro_39 rfl pz84_3 (by decide) (by decide) dX8_init_83 (fun H83_3 locs hB1 kq z83 oq83 => ?_)
  have hq := kz83_2xx.2.1
  have hB := th_NR_s hB hB1 hq n18xxxxxxxxxxxxxxxxxxxxx (by omega) oq83
  have hIN := th_IN_s hIN hq oq83
  have n18xxxxxxxxxxxxxxxxxxxxxx : ¬ th_MR G Γ80_3 H83_3 b18 := fun w => n18xxxxxxxxxxxxxxxxxxxxx (th_MR_s hq oq83 w)
  have ho := tc_OBo ho oq83 (by have q9 := lb18; omega)
  have k27xxxxxxxxxxxxxxxxxxxx := tm_MAo k27xxxxxxxxxxxxxxxxxxx oq83 (fun e => dd_b27_b18 e.symm)
  have n27xxxxxxxxxxxxxxxxxxxx : ¬ th_MR G Γ80_3 H83_3 b27 := fun w => n27xxxxxxxxxxxxxxxxxxx (th_MR_s hq oq83 w)
  have k35xxxxxxxxxxxxxxxxxx := tm_MAo k35xxxxxxxxxxxxxxxxx oq83 (fun e => dd_b35_b18 e.symm)
  have n35xxxxxxxxxxxxxxxxxx : ¬ th_MR G Γ80_3 H83_3 b35 := fun w => n35xxxxxxxxxxxxxxxxx (th_MR_s hq oq83 w)
  have k43xxxxxxxxxxxxxxxx := tm_MAo k43xxxxxxxxxxxxxxx oq83 (fun e => dd_b43_b18 e.symm)
  have n43xxxxxxxxxxxxxxxx : ¬ th_MR G Γ80_3 H83_3 b43 := fun w => n43xxxxxxxxxxxxxxx (th_MR_s hq oq83 w)
  have kz83_3 := kq
  have hs : H83_3.size = H0.size + 24 := by omega
  have lt_b18 : b18 < H83_3.size := by omega
  have lt_b27 : b27 < H83_3.size := by omega
  have lt_b35 : b35 < H83_3.size := by omega
  have lt_b43 : b43 < H83_3.size := by omega
  have lt_b5 : b5 < H83_3.size := by omega
  have lt_b76 : b76 < H83_3.size := by omega
  have lt_b76_1 : b76_1 < H83_3.size := by omega
  have lt_b76_2 : b76_2 < H83_3.size := by omega
  have lt_b76_3 : b76_3 < H83_3.size := by omega
  refine tr_iinc (fun z84_4 => [(1, .int z84_4), (0, .ref a0)]) hx hb dX8_init_84 hl (k := 0) rfl pz84_3 tk_1 (by decide) (by decide) (by decide) (fun _ => rfl) (fun z84_4 ls ez84_4 hl => ?_)
  have pz84_4 : z84_4.toInt = 4 := ez84_4
  refine lv_goto (tgt := 65) hx hb dX8_init_87 (by decide) ?_
  refine lv_iload_n hx hb dX8_init_65 rfl (lv_at hl 0 rfl) ?_
  refine lv_bipush (v := 6) hx hb dX8_init_66 (by decide) ?_
  refine tr_icmp_ge (tgt := 90) hx hb dX8_init_68 (by decide) pz84_4 tk_6 (fun c => absurd c (by decide)) (fun _ => ?_)
  refine lv_aload_n hx hb dX8_init_71 rfl (lv_at hl 1 rfl) ?_
  refine tc_get hC cf_X8 ho (j := 1) (by decide) rfl kf_X8_20 dX8_init_72 ?_
  refine lv_iload_n hx hb dX8_init_75 rfl (lv_at hl 0 rfl) ?_
  refine tc_new hC cf_X10 hB.1 kw_105 kw_107 kw_4 (Nat.le_of_ble_eq_true rfl) (Nat.le_of_ble_eq_true rfl) dX8_init_76 (fun b76_4 H76_4 eb76 zb76 oq76 hB1 kn => ?_)
  have n760 : ¬ th_MR G Γ80_3 H83_3 b76_4 := fun w => absurd (th_MR_lt hB.2.1 w) (by omega)
  have u76 := kn.1
  have hB := th_NR_s hB hB1 u76 n760 (by omega) oq76
  have hIN := th_IN_s hIN u76 oq76
  have nb : ¬ th_MR G Γ80_3 H76_4 b76_4 := fun w => n760 (th_MR_s u76 oq76 w)
  have ho := tc_OBo ho oq76 (by omega)
  have kz83_3x := tm_MAo kz83_3 oq76 (by have q9 := lt_b18; omega)
  have n18xxxxxxxxxxxxxxxxxxxxxxx : ¬ th_MR G Γ80_3 H76_4 b18 := fun w => n18xxxxxxxxxxxxxxxxxxxxxx (th_MR_s u76 oq76 w)
  have k27xxxxxxxxxxxxxxxxxxxxx := tm_MAo k27xxxxxxxxxxxxxxxxxxxx oq76 (by have q9 := lt_b27; omega)
  have n27xxxxxxxxxxxxxxxxxxxxx : ¬ th_MR G Γ80_3 H76_4 b27 := fun w => n27xxxxxxxxxxxxxxxxxxxx (th_MR_s u76 oq76 w)
  have k35xxxxxxxxxxxxxxxxxxx := tm_MAo k35xxxxxxxxxxxxxxxxxx oq76 (by have q9 := lt_b35; omega)
  have n35xxxxxxxxxxxxxxxxxxx : ¬ th_MR G Γ80_3 H76_4 b35 := fun w => n35xxxxxxxxxxxxxxxxxx (th_MR_s u76 oq76 w)
  have k43xxxxxxxxxxxxxxxxx := tm_MAo k43xxxxxxxxxxxxxxxx oq76 (by have q9 := lt_b43; omega)
  have n43xxxxxxxxxxxxxxxxx : ¬ th_MR G Γ80_3 H76_4 b43 := fun w => n43xxxxxxxxxxxxxxxx (th_MR_s u76 oq76 w)
  have lbn : H0.size ≤ b76_4 := by omega
  have ltn : b76_4 < H76_4.size := by omega
  have szn : G.2.2 ≤ b76_4 := by have q9 := hB.1.2.2.2.2.2.1; have q8 := hB.1.2.2.2.2.2.2; omega
  have ne_b18 : b18 ≠ b76_4 := by have q9 := lt_b18; omega
  have nr_b76_4_b18 : b76_4 ≠ b18 := fun e => ne_b18 e.symm
  have ne_b27 : b27 ≠ b76_4 := by have q9 := lt_b27; omega
  have nr_b76_4_b27 : b76_4 ≠ b27 := fun e => ne_b27 e.symm
  have ne_b35 : b35 ≠ b76_4 := by have q9 := lt_b35; omega
  have nr_b76_4_b35 : b76_4 ≠ b35 := fun e => ne_b35 e.symm
  have ne_b43 : b43 ≠ b76_4 := by have q9 := lt_b43; omega
  have nr_b76_4_b43 : b76_4 ≠ b43 := fun e => ne_b43 e.symm
  have ne_b5 : b5 ≠ b76_4 := by have q9 := lt_b5; omega
  have ne_b76 : b76 ≠ b76_4 := by have q9 := lt_b76; omega
  have ne_b76_1 : b76_1 ≠ b76_4 := by have q9 := lt_b76_1; omega
  have ne_b76_2 : b76_2 ≠ b76_4 := by have q9 := lt_b76_2; omega
  have ne_b76_3 : b76_3 ≠ b76_4 := by have q9 := lt_b76_3; omega
  have hs : H76_4.size = H0.size + 25 := by omega
  have lt_b18 : b18 < H76_4.size := by omega
  have lt_b27 : b27 < H76_4.size := by omega
  have lt_b35 : b35 < H76_4.size := by omega
  have lt_b43 : b43 < H76_4.size := by omega
  have lt_b5 : b5 < H76_4.size := by omega
  have lt_b76 : b76 < H76_4.size := by omega
  have lt_b76_1 : b76_1 < H76_4.size := by omega
  have lt_b76_2 : b76_2 < H76_4.size := by omega
  have lt_b76_3 : b76_3 < H76_4.size := by omega
  have of_b76_4 : b76_4 = a0 + 25 := by omega
  refine lv_dup hx hb dX8_init_79 rfl ?_
  refine th_call (th_runI (As := []) (rest := [.ref b76_4, .int z84_4, .ref b18]) hC mf_X10_init km_X8_44 im_X10_init rfl (c_X10_init_i l G Γ80_3 H76_4 hB.1.1 hB.2.1 b76_4 kn szn ltn nb (by omega)) rfl rfl ⟨Nat.le_of_ble_eq_true rfl, Nat.le_of_ble_eq_true rfl⟩ rfl hl.1 rfl (Nat.le_of_ble_eq_true rfl) dX8_init_80 ⟨Nat.le_of_ble_eq_true rfl, Nat.le_of_ble_eq_true rfl⟩) hB.1.2.1 (fun v80 H80_4 locs hp hz hS => ?_)
  obtain ⟨rfl, Γ80_4, hy, hi, hzn⟩ := hp
  have hB := th_NR_c hB hy lbn hS
  have hIN := th_IN_c hIN hy hi
  have ho := tc_OBc ho hy (by omega) (by omega)
  have n18xxxxxxxxxxxxxxxxxxxxxxxx : ¬ th_MR G Γ80_4 H80_4 b18 := fun w => (hy.2.2.2.1 _ w).elim n18xxxxxxxxxxxxxxxxxxxxxxx (fun w => absurd w (by have q9 := lt_b18; omega))
  have kz83_3xx := tc_MAc kz83_3x hy ne_b18
  have n27xxxxxxxxxxxxxxxxxxxxxx : ¬ th_MR G Γ80_4 H80_4 b27 := fun w => (hy.2.2.2.1 _ w).elim n27xxxxxxxxxxxxxxxxxxxxx (fun w => absurd w (by have q9 := lt_b27; omega))
  have k27xxxxxxxxxxxxxxxxxxxxxx := tc_MAc k27xxxxxxxxxxxxxxxxxxxxx hy ne_b27
  have n35xxxxxxxxxxxxxxxxxxxx : ¬ th_MR G Γ80_4 H80_4 b35 := fun w => (hy.2.2.2.1 _ w).elim n35xxxxxxxxxxxxxxxxxxx (fun w => absurd w (by have q9 := lt_b35; omega))
  have k35xxxxxxxxxxxxxxxxxxxx := tc_MAc k35xxxxxxxxxxxxxxxxxxx hy ne_b35
  have n43xxxxxxxxxxxxxxxxxx : ¬ th_MR G Γ80_4 H80_4 b43 := fun w => (hy.2.2.2.1 _ w).elim n43xxxxxxxxxxxxxxxxx (fun w => absurd w (by have q9 := lt_b43; omega))
  have k43xxxxxxxxxxxxxxxxxx := tc_MAc k43xxxxxxxxxxxxxxxxx hy ne_b43
  have hr_b5xxxxx := (hy.1.2.2 b5 lt_b5 ne_b5).1.trans hr_b5xxxx
  have hr_b76xxxx := (hy.1.2.2 b76 lt_b76 ne_b76).1.trans hr_b76xxx
  have hr_b76_1xxx := (hy.1.2.2 b76_1 lt_b76_1 ne_b76_1).1.trans hr_b76_1xx
  have hr_b76_2xx := (hy.1.2.2 b76_2 lt_b76_2 ne_b76_2).1.trans hr_b76_2x
  have hr_b76_3x := (hy.1.2.2 b76_3 lt_b76_3 ne_b76_3).1.trans hr_b76_3
  have hr_b76_4 := hy.2.2.1
  have hs : H80_4.size = H0.size + 27 := by omega
  have lt_b76_4 : b76_4 < H80_4.size := by omega
  have lt_b18 : b18 < H80_4.size := by omega
  have lt_b27 : b27 < H80_4.size := by omega
  have lt_b35 : b35 < H80_4.size := by omega
  have lt_b43 : b43 < H80_4.size := by omega
  have lt_b5 : b5 < H80_4.size := by omega
  have lt_b76 : b76 < H80_4.size := by omega
  have lt_b76_1 : b76_1 < H80_4.size := by omega
  have lt_b76_2 : b76_2 < H80_4.size := by omega
  have lt_b76_3 : b76_3 < H80_4.size := by omega
  have hN := th_new_c hN hy
  refine W.eq (g2 := F0 m 83 ls [.ref b76_4, .int z84_4, .ref b18]) rfl ?_
  refine tc_aast (x := 4) hC hB.1 kz83_3xx lb18 rfl hr_b76_4 ro_39 rfl pz84_4 (by decide) (by decide) dX8_init_83 (fun H83_4 locs hB1 kq z83 oq83 => ?_)
  have hq := kz83_3xx.2.1
  have hB := th_NR_s hB hB1 hq n18xxxxxxxxxxxxxxxxxxxxxxxx (by omega) oq83
  have hIN := th_IN_s hIN hq oq83
  have n18xxxxxxxxxxxxxxxxxxxxxxxxx : ¬ th_MR G Γ80_4 H83_4 b18 := fun w => n18xxxxxxxxxxxxxxxxxxxxxxxx (th_MR_s hq oq83 w)
  have ho := tc_OBo ho oq83 (by have q9 := lb18; omega)
  have k27xxxxxxxxxxxxxxxxxxxxxxx := tm_MAo k27xxxxxxxxxxxxxxxxxxxxxx oq83 (fun e => dd_b27_b18 e.symm)
  have n27xxxxxxxxxxxxxxxxxxxxxxx : ¬ th_MR G Γ80_4 H83_4 b27 := fun w => n27xxxxxxxxxxxxxxxxxxxxxx (th_MR_s hq oq83 w)
  have k35xxxxxxxxxxxxxxxxxxxxx := tm_MAo k35xxxxxxxxxxxxxxxxxxxx oq83 (fun e => dd_b35_b18 e.symm)
  have n35xxxxxxxxxxxxxxxxxxxxx : ¬ th_MR G Γ80_4 H83_4 b35 := fun w => n35xxxxxxxxxxxxxxxxxxxx (th_MR_s hq oq83 w)
  have k43xxxxxxxxxxxxxxxxxxx := tm_MAo k43xxxxxxxxxxxxxxxxxx oq83 (fun e => dd_b43_b18 e.symm)
  have n43xxxxxxxxxxxxxxxxxxx : ¬ th_MR G Γ80_4 H83_4 b43 := fun w => n43xxxxxxxxxxxxxxxxxx (th_MR_s hq oq83 w)
  have kz83_4 := kq
  have hs : H83_4.size = H0.size + 27 := by omega
  have lt_b18 : b18 < H83_4.size := by omega
  have lt_b27 : b27 < H83_4.size := by omega
  have lt_b35 : b35 < H83_4.size := by omega
  have lt_b43 : b43 < H83_4.size := by omega
  have lt_b5 : b5 < H83_4.size := by omega
  have lt_b76 : b76 < H83_4.size := by omega
  have lt_b76_1 : b76_1 < H83_4.size := by omega
  have lt_b76_2 : b76_2 < H83_4.size := by omega
  have lt_b76_3 : b76_3 < H83_4.size := by omega
  have lt_b76_4 : b76_4 < H83_4.size := by omega
  refine tr_iinc (fun z84_5 => [(1, .int z84_5), (0, .ref a0)]) hx hb dX8_init_84 hl (k := 0) rfl pz84_4 tk_1 (by decide) (by decide) (by decide) (fun _ => rfl) (fun z84_5 ls ez84_5 hl => ?_)
  have pz84_5 : z84_5.toInt = 5 := ez84_5
  refine lv_goto (tgt := 65) hx hb dX8_init_87 (by decide) ?_
  refine lv_iload_n hx hb dX8_init_65 rfl (lv_at hl 0 rfl) ?_
  refine lv_bipush (v := 6) hx hb dX8_init_66 (by decide) ?_
  refine tr_icmp_ge (tgt := 90) hx hb dX8_init_68 (by decide) pz84_5 tk_6 (fun c => absurd c (by decide)) (fun _ => ?_)
  refine lv_aload_n hx hb dX8_init_71 rfl (lv_at hl 1 rfl) ?_
  refine tc_get hC cf_X8 ho (j := 1) (by decide) rfl kf_X8_20 dX8_init_72 ?_
  refine lv_iload_n hx hb dX8_init_75 rfl (lv_at hl 0 rfl) ?_
  refine tc_new hC cf_X10 hB.1 kw_105 kw_107 kw_4 (Nat.le_of_ble_eq_true rfl) (Nat.le_of_ble_eq_true rfl) dX8_init_76 (fun b76_5 H76_5 eb76 zb76 oq76 hB1 kn => ?_)
  have n760 : ¬ th_MR G Γ80_4 H83_4 b76_5 := fun w => absurd (th_MR_lt hB.2.1 w) (by omega)
  have u76 := kn.1
  have hB := th_NR_s hB hB1 u76 n760 (by omega) oq76
  have hIN := th_IN_s hIN u76 oq76
  have nb : ¬ th_MR G Γ80_4 H76_5 b76_5 := fun w => n760 (th_MR_s u76 oq76 w)
  have ho := tc_OBo ho oq76 (by omega)
  have kz83_4x := tm_MAo kz83_4 oq76 (by have q9 := lt_b18; omega)
  have n18xxxxxxxxxxxxxxxxxxxxxxxxxx : ¬ th_MR G Γ80_4 H76_5 b18 := fun w => n18xxxxxxxxxxxxxxxxxxxxxxxxx (th_MR_s u76 oq76 w)
  have k27xxxxxxxxxxxxxxxxxxxxxxxx := tm_MAo k27xxxxxxxxxxxxxxxxxxxxxxx oq76 (by have q9 := lt_b27; omega)
  have n27xxxxxxxxxxxxxxxxxxxxxxxx : ¬ th_MR G Γ80_4 H76_5 b27 := fun w => n27xxxxxxxxxxxxxxxxxxxxxxx (th_MR_s u76 oq76 w)
  have k35xxxxxxxxxxxxxxxxxxxxxx := tm_MAo k35xxxxxxxxxxxxxxxxxxxxx oq76 (by have q9 := lt_b35; omega)
  have n35xxxxxxxxxxxxxxxxxxxxxx : ¬ th_MR G Γ80_4 H76_5 b35 := fun w => n35xxxxxxxxxxxxxxxxxxxxx (th_MR_s u76 oq76 w)
  have k43xxxxxxxxxxxxxxxxxxxx := tm_MAo k43xxxxxxxxxxxxxxxxxxx oq76 (by have q9 := lt_b43; omega)
  have n43xxxxxxxxxxxxxxxxxxxx : ¬ th_MR G Γ80_4 H76_5 b43 := fun w => n43xxxxxxxxxxxxxxxxxxx (th_MR_s u76 oq76 w)
  have lbn : H0.size ≤ b76_5 := by omega
  have ltn : b76_5 < H76_5.size := by omega
  have szn : G.2.2 ≤ b76_5 := by have q9 := hB.1.2.2.2.2.2.1; have q8 := hB.1.2.2.2.2.2.2; omega
  have ne_b18 : b18 ≠ b76_5 := by have q9 := lt_b18; omega
  have nr_b76_5_b18 : b76_5 ≠ b18 := fun e => ne_b18 e.symm
  have ne_b27 : b27 ≠ b76_5 := by have q9 := lt_b27; omega
  have nr_b76_5_b27 : b76_5 ≠ b27 := fun e => ne_b27 e.symm
  have ne_b35 : b35 ≠ b76_5 := by have q9 := lt_b35; omega
  have nr_b76_5_b35 : b76_5 ≠ b35 := fun e => ne_b35 e.symm
  have ne_b43 : b43 ≠ b76_5 := by have q9 := lt_b43; omega
  have nr_b76_5_b43 : b76_5 ≠ b43 := fun e => ne_b43 e.symm
  have ne_b5 : b5 ≠ b76_5 := by have q9 := lt_b5; omega
  have ne_b76 : b76 ≠ b76_5 := by have q9 := lt_b76; omega
  have ne_b76_1 : b76_1 ≠ b76_5 := by have q9 := lt_b76_1; omega
  have ne_b76_2 : b76_2 ≠ b76_5 := by have q9 := lt_b76_2; omega
  have ne_b76_3 : b76_3 ≠ b76_5 := by have q9 := lt_b76_3; omega
  have ne_b76_4 : b76_4 ≠ b76_5 := by have q9 := lt_b76_4; omega
  have hs : H76_5.size = H0.size + 28 := by omega
  have lt_b18 : b18 < H76_5.size := by omega
  have lt_b27 : b27 < H76_5.size := by omega
  have lt_b35 : b35 < H76_5.size := by omega
  have lt_b43 : b43 < H76_5.size := by omega
  have lt_b5 : b5 < H76_5.size := by omega
  have lt_b76 : b76 < H76_5.size := by omega
  have lt_b76_1 : b76_1 < H76_5.size := by omega
  have lt_b76_2 : b76_2 < H76_5.size := by omega
  have lt_b76_3 : b76_3 < H76_5.size := by omega
  have lt_b76_4 : b76_4 < H76_5.size := by omega
  have of_b76_5 : b76_5 = a0 + 28 := by omega
  refine lv_dup hx hb dX8_init_79 rfl ?_
  refine th_call (th_runI (As := []) (rest := [.ref b76_5, .int z84_5, .ref b18]) hC mf_X10_init km_X8_44 im_X10_init rfl (c_X10_init_i l G Γ80_4 H76_5 hB.1.1 hB.2.1 b76_5 kn szn ltn nb (by omega)) rfl rfl ⟨Nat.le_of_ble_eq_true rfl, Nat.le_of_ble_eq_true rfl⟩ rfl hl.1 rfl (Nat.le_of_ble_eq_true rfl) dX8_init_80 ⟨Nat.le_of_ble_eq_true rfl, Nat.le_of_ble_eq_true rfl⟩) hB.1.2.1 (fun v80 H80_5 locs hp hz hS => ?_)
  obtain ⟨rfl, Γ80_5, hy, hi, hzn⟩ := hp
  have hB := th_NR_c hB hy lbn hS
  have hIN := th_IN_c hIN hy hi
  have ho := tc_OBc ho hy (by omega) (by omega)
  have n18xxxxxxxxxxxxxxxxxxxxxxxxxxx : ¬ th_MR G Γ80_5 H80_5 b18 := fun w => (hy.2.2.2.1 _ w).elim n18xxxxxxxxxxxxxxxxxxxxxxxxxx (fun w => absurd w (by have q9 := lt_b18; omega))
  have kz83_4xx := tc_MAc kz83_4x hy ne_b18
  have n27xxxxxxxxxxxxxxxxxxxxxxxxx : ¬ th_MR G Γ80_5 H80_5 b27 := fun w => (hy.2.2.2.1 _ w).elim n27xxxxxxxxxxxxxxxxxxxxxxxx (fun w => absurd w (by have q9 := lt_b27; omega))
  have k27xxxxxxxxxxxxxxxxxxxxxxxxx := tc_MAc k27xxxxxxxxxxxxxxxxxxxxxxxx hy ne_b27
  have n35xxxxxxxxxxxxxxxxxxxxxxx : ¬ th_MR G Γ80_5 H80_5 b35 := fun w => (hy.2.2.2.1 _ w).elim n35xxxxxxxxxxxxxxxxxxxxxx (fun w => absurd w (by have q9 := lt_b35; omega))
  have k35xxxxxxxxxxxxxxxxxxxxxxx := tc_MAc k35xxxxxxxxxxxxxxxxxxxxxx hy ne_b35
  have n43xxxxxxxxxxxxxxxxxxxxx : ¬ th_MR G Γ80_5 H80_5 b43 := fun w => (hy.2.2.2.1 _ w).elim n43xxxxxxxxxxxxxxxxxxxx (fun w => absurd w (by have q9 := lt_b43; omega))
  have k43xxxxxxxxxxxxxxxxxxxxx := tc_MAc k43xxxxxxxxxxxxxxxxxxxx hy ne_b43
  have hr_b5xxxxxx := (hy.1.2.2 b5 lt_b5 ne_b5).1.trans hr_b5xxxxx
  have hr_b76xxxxx := (hy.1.2.2 b76 lt_b76 ne_b76).1.trans hr_b76xxxx
  have hr_b76_1xxxx := (hy.1.2.2 b76_1 lt_b76_1 ne_b76_1).1.trans hr_b76_1xxx
  have hr_b76_2xxx := (hy.1.2.2 b76_2 lt_b76_2 ne_b76_2).1.trans hr_b76_2xx
  have hr_b76_3xx := (hy.1.2.2 b76_3 lt_b76_3 ne_b76_3).1.trans hr_b76_3x
  have hr_b76_4x := (hy.1.2.2 b76_4 lt_b76_4 ne_b76_4).1.trans hr_b76_4
  have hr_b76_5 := hy.2.2.1
  have hs : H80_5.size = H0.size + 30 := by omega
  have lt_b76_5 : b76_5 < H80_5.size := by omega
  have lt_b18 : b18 < H80_5.size := by omega
  have lt_b27 : b27 < H80_5.size := by omega
  have lt_b35 : b35 < H80_5.size := by omega
  have lt_b43 : b43 < H80_5.size := by omega
  have lt_b5 : b5 < H80_5.size := by omega
  have lt_b76 : b76 < H80_5.size := by omega
  have lt_b76_1 : b76_1 < H80_5.size := by omega
  have lt_b76_2 : b76_2 < H80_5.size := by omega
  have lt_b76_3 : b76_3 < H80_5.size := by omega
  have lt_b76_4 : b76_4 < H80_5.size := by omega
  have hN := th_new_c hN hy
  refine W.eq (g2 := F0 m 83 ls [.ref b76_5, .int z84_5, .ref b18]) rfl ?_
  refine tc_aast (x := 5) hC hB.1 kz83_4xx lb18 rfl hr_b76_5 ro_39 rfl pz84_5 (by decide) (by decide) dX8_init_83 (fun H83_5 locs hB1 kq z83 oq83 => ?_)
  have hq := kz83_4xx.2.1
  have hB := th_NR_s hB hB1 hq n18xxxxxxxxxxxxxxxxxxxxxxxxxxx (by omega) oq83
  have hIN := th_IN_s hIN hq oq83
  have n18xxxxxxxxxxxxxxxxxxxxxxxxxxxx : ¬ th_MR G Γ80_5 H83_5 b18 := fun w => n18xxxxxxxxxxxxxxxxxxxxxxxxxxx (th_MR_s hq oq83 w)
  have ho := tc_OBo ho oq83 (by have q9 := lb18; omega)
  have k27xxxxxxxxxxxxxxxxxxxxxxxxxx := tm_MAo k27xxxxxxxxxxxxxxxxxxxxxxxxx oq83 (fun e => dd_b27_b18 e.symm)
  have n27xxxxxxxxxxxxxxxxxxxxxxxxxx : ¬ th_MR G Γ80_5 H83_5 b27 := fun w => n27xxxxxxxxxxxxxxxxxxxxxxxxx (th_MR_s hq oq83 w)
  have k35xxxxxxxxxxxxxxxxxxxxxxxx := tm_MAo k35xxxxxxxxxxxxxxxxxxxxxxx oq83 (fun e => dd_b35_b18 e.symm)
  have n35xxxxxxxxxxxxxxxxxxxxxxxx : ¬ th_MR G Γ80_5 H83_5 b35 := fun w => n35xxxxxxxxxxxxxxxxxxxxxxx (th_MR_s hq oq83 w)
  have k43xxxxxxxxxxxxxxxxxxxxxx := tm_MAo k43xxxxxxxxxxxxxxxxxxxxx oq83 (fun e => dd_b43_b18 e.symm)
  have n43xxxxxxxxxxxxxxxxxxxxxx : ¬ th_MR G Γ80_5 H83_5 b43 := fun w => n43xxxxxxxxxxxxxxxxxxxxx (th_MR_s hq oq83 w)
  have kz83_5 := kq
  have hs : H83_5.size = H0.size + 30 := by omega
  have lt_b18 : b18 < H83_5.size := by omega
  have lt_b27 : b27 < H83_5.size := by omega
  have lt_b35 : b35 < H83_5.size := by omega
  have lt_b43 : b43 < H83_5.size := by omega
  have lt_b5 : b5 < H83_5.size := by omega
  have lt_b76 : b76 < H83_5.size := by omega
  have lt_b76_1 : b76_1 < H83_5.size := by omega
  have lt_b76_2 : b76_2 < H83_5.size := by omega
  have lt_b76_3 : b76_3 < H83_5.size := by omega
  have lt_b76_4 : b76_4 < H83_5.size := by omega
  have lt_b76_5 : b76_5 < H83_5.size := by omega
  refine tr_iinc (fun z84_6 => [(1, .int z84_6), (0, .ref a0)]) hx hb dX8_init_84 hl (k := 0) rfl pz84_5 tk_1 (by decide) (by decide) (by decide) (fun _ => rfl) (fun z84_6 ls ez84_6 hl => ?_)
  have pz84_6 : z84_6.toInt = 6 := ez84_6
  refine lv_goto (tgt := 65) hx hb dX8_init_87 (by decide) ?_
  refine lv_iload_n hx hb dX8_init_65 rfl (lv_at hl 0 rfl) ?_
  refine lv_bipush (v := 6) hx hb dX8_init_66 (by decide) ?_
  refine tr_icmp_ge (tgt := 90) hx hb dX8_init_68 (by decide) pz84_6 tk_6 (fun _ => ?_) (fun c => absurd c (by decide))
  have hI1 := hB.1.1
  have hR1 := hB.2.1
  have hI2 := th_nmA (r := 33) (o := a0) hI1 kz83_5 ro_33 (Nat.le_refl _) (Nat.le_refl _) (fun i hi => by
    match i, hi with
    | 0, _ => exact th_sR hr_b76xxxxx
    | 1, _ => exact th_sR hr_b76_1xxxx
    | 2, _ => exact th_sR hr_b76_2xxx
    | 3, _ => exact th_sR hr_b76_3xx
    | 4, _ => exact th_sR hr_b76_4x
    | 5, _ => exact th_sR hr_b76_5
    | n + 6, h => exact absurd h (by omega))
  have hR1 := th_RC_up hI1 hR1 (x := (33, a0)) kz83_5.2.1 n18xxxxxxxxxxxxxxxxxxxxxxxxxxxx hI2 (fun e => absurd (show (33 : Nat) = 3 from e) (by decide)) (fun e => absurd (show (33 : Nat) = 18 ∨ (33 : Nat) = 19 from e) (by decide)) (show (33 : Nat) ≠ 12 by decide)
  have hI1 := hI2
  have hIN := th_IN_up (b := b18) (x := (33, a0)) hIN (ini_q rfl rfl rfl (fun i d hm => by
    rcases List.mem_cons.mp hm with e | hm
    · cases e; exact (th_sl_at kz83_5.2.2 (arrV_read _ _ (by decide))).trans (congrArg Value.ref (show b76 = b18 + 4 by omega))
    rcases List.mem_cons.mp hm with e | hm
    · cases e; exact (th_sl_at kz83_5.2.2 (arrV_read _ _ (by decide))).trans (congrArg Value.ref (show b76_1 = b18 + 7 by omega))
    rcases List.mem_cons.mp hm with e | hm
    · cases e; exact (th_sl_at kz83_5.2.2 (arrV_read _ _ (by decide))).trans (congrArg Value.ref (show b76_2 = b18 + 10 by omega))
    rcases List.mem_cons.mp hm with e | hm
    · cases e; exact (th_sl_at kz83_5.2.2 (arrV_read _ _ (by decide))).trans (congrArg Value.ref (show b76_3 = b18 + 13 by omega))
    rcases List.mem_cons.mp hm with e | hm
    · cases e; exact (th_sl_at kz83_5.2.2 (arrV_read _ _ (by decide))).trans (congrArg Value.ref (show b76_4 = b18 + 16 by omega))
    rcases List.mem_cons.mp hm with e | hm
    · cases e; exact (th_sl_at kz83_5.2.2 (arrV_read _ _ (by decide))).trans (congrArg Value.ref (show b76_5 = b18 + 19 by omega))
    cases hm))
  have ho := th_OB_up (b := b18) (x := (33, a0)) ho (by have q9 := lb18; omega)
  have k27xxxxxxxxxxxxxxxxxxxxxxxxxxu := th_MA_up (b := b18) (x := (33, a0)) k27xxxxxxxxxxxxxxxxxxxxxxxxxx (fun e => dd_b27_b18 e.symm)
  have n27xxxxxxxxxxxxxxxxxxxxxxxxxxu : ¬ th_MR G (th_up Γ80_5 b18 (33, a0)) H83_5 b27 := fun w => n27xxxxxxxxxxxxxxxxxxxxxxxxxx (th_MR_up (show (33 : Nat) ≠ 12 by decide) w)
  have k35xxxxxxxxxxxxxxxxxxxxxxxxu := th_MA_up (b := b18) (x := (33, a0)) k35xxxxxxxxxxxxxxxxxxxxxxxx (fun e => dd_b35_b18 e.symm)
  have n35xxxxxxxxxxxxxxxxxxxxxxxxu : ¬ th_MR G (th_up Γ80_5 b18 (33, a0)) H83_5 b35 := fun w => n35xxxxxxxxxxxxxxxxxxxxxxxx (th_MR_up (show (33 : Nat) ≠ 12 by decide) w)
  have k43xxxxxxxxxxxxxxxxxxxxxxu := th_MA_up (b := b18) (x := (33, a0)) k43xxxxxxxxxxxxxxxxxxxxxx (fun e => dd_b43_b18 e.symm)
  have n43xxxxxxxxxxxxxxxxxxxxxxu : ¬ th_MR G (th_up Γ80_5 b18 (33, a0)) H83_5 b43 := fun w => n43xxxxxxxxxxxxxxxxxxxxxx (th_MR_up (show (33 : Nat) ≠ 12 by decide) w)
  have hI2 := th_nmA (r := 34) (o := a0) hI1 k27xxxxxxxxxxxxxxxxxxxxxxxxxxu ro_34 (Nat.le_refl _) (Nat.le_refl _) (fun i _ => th_sI (x := 0) (by decide) (by decide))
  have hR1 := th_RC_up hI1 hR1 (x := (34, a0)) k27xxxxxxxxxxxxxxxxxxxxxxxxxxu.2.1 n27xxxxxxxxxxxxxxxxxxxxxxxxxxu hI2 (fun e => absurd (show (34 : Nat) = 3 from e) (by decide)) (fun e => absurd (show (34 : Nat) = 18 ∨ (34 : Nat) = 19 from e) (by decide)) (show (34 : Nat) ≠ 12 by decide)
  have hI1 := hI2
  have hIN := th_IN_up (b := b27) (x := (34, a0)) hIN (ini_r rfl rfl rfl rfl (fun i hi => th_sl_at k27xxxxxxxxxxxxxxxxxxxxxxxxxx.2.2 (arrV_read _ _ hi)))
  have ho := th_OB_up (b := b27) (x := (34, a0)) ho (by have q9 := lb27; omega)
  have k35xxxxxxxxxxxxxxxxxxxxxxxxuu := th_MA_up (b := b27) (x := (34, a0)) k35xxxxxxxxxxxxxxxxxxxxxxxxu (fun e => dd_b35_b27 e.symm)
  have n35xxxxxxxxxxxxxxxxxxxxxxxxuu : ¬ th_MR G (th_up (th_up Γ80_5 b18 (33, a0)) b27 (34, a0)) H83_5 b35 := fun w => n35xxxxxxxxxxxxxxxxxxxxxxxxu (th_MR_up (show (34 : Nat) ≠ 12 by decide) w)
  have k43xxxxxxxxxxxxxxxxxxxxxxuu := th_MA_up (b := b27) (x := (34, a0)) k43xxxxxxxxxxxxxxxxxxxxxxu (fun e => dd_b43_b27 e.symm)
  have n43xxxxxxxxxxxxxxxxxxxxxxuu : ¬ th_MR G (th_up (th_up Γ80_5 b18 (33, a0)) b27 (34, a0)) H83_5 b43 := fun w => n43xxxxxxxxxxxxxxxxxxxxxxu (th_MR_up (show (34 : Nat) ≠ 12 by decide) w)
  have hI2 := th_nmA (r := 35) (o := a0) hI1 k35xxxxxxxxxxxxxxxxxxxxxxxxuu ro_35 (Nat.le_refl _) (Nat.le_refl _) (fun i _ => th_sI (x := 0) (by decide) (by decide))
  have hR1 := th_RC_up hI1 hR1 (x := (35, a0)) k35xxxxxxxxxxxxxxxxxxxxxxxxuu.2.1 n35xxxxxxxxxxxxxxxxxxxxxxxxuu hI2 (fun e => absurd (show (35 : Nat) = 3 from e) (by decide)) (fun e => absurd (show (35 : Nat) = 18 ∨ (35 : Nat) = 19 from e) (by decide)) (show (35 : Nat) ≠ 12 by decide)
  have hI1 := hI2
  have hIN := th_IN_up (b := b35) (x := (35, a0)) hIN (ini_r rfl rfl rfl rfl (fun i hi => th_sl_at k35xxxxxxxxxxxxxxxxxxxxxxxx.2.2 (arrV_read _ _ hi)))
  have ho := th_OB_up (b := b35) (x := (35, a0)) ho (by have q9 := lb35; omega)
  have k43xxxxxxxxxxxxxxxxxxxxxxuuu := th_MA_up (b := b35) (x := (35, a0)) k43xxxxxxxxxxxxxxxxxxxxxxuu (fun e => dd_b43_b35 e.symm)
  have n43xxxxxxxxxxxxxxxxxxxxxxuuu : ¬ th_MR G (th_up (th_up (th_up Γ80_5 b18 (33, a0)) b27 (34, a0)) b35 (35, a0)) H83_5 b43 := fun w => n43xxxxxxxxxxxxxxxxxxxxxxuu (th_MR_up (show (35 : Nat) ≠ 12 by decide) w)
  have hI2 := th_nmA (r := 36) (o := a0) hI1 k43xxxxxxxxxxxxxxxxxxxxxxuuu ro_36 (Nat.le_refl _) (Nat.le_refl _) (fun i _ => th_sI (x := 0) (by decide) (by decide))
  have hR1 := th_RC_up hI1 hR1 (x := (36, a0)) k43xxxxxxxxxxxxxxxxxxxxxxuuu.2.1 n43xxxxxxxxxxxxxxxxxxxxxxuuu hI2 (fun e => absurd (show (36 : Nat) = 3 from e) (by decide)) (fun e => absurd (show (36 : Nat) = 18 ∨ (36 : Nat) = 19 from e) (by decide)) (show (36 : Nat) ≠ 12 by decide)
  have hI1 := hI2
  have hIN := th_IN_up (b := b43) (x := (36, a0)) hIN (ini_r rfl rfl rfl rfl (fun i hi => th_sl_at k43xxxxxxxxxxxxxxxxxxxxxx.2.2 (arrV_read _ _ hi)))
  have ho := th_OB_up (b := b43) (x := (36, a0)) ho (by have q9 := lb43; omega)
  have g_b18 : (th_up (th_up (th_up (th_up Γ80_5 b18 (33, a0)) b27 (34, a0)) b35 (35, a0)) b43 (36, a0)) b18 = (33, a0) := (th_up_n (dd_b43_b18)).trans ((th_up_n (dd_b35_b18)).trans ((th_up_n (dd_b27_b18)).trans (th_up_s)))
  have g_b27 : (th_up (th_up (th_up (th_up Γ80_5 b18 (33, a0)) b27 (34, a0)) b35 (35, a0)) b43 (36, a0)) b27 = (34, a0) := (th_up_n (dd_b43_b27)).trans ((th_up_n (dd_b35_b27)).trans (th_up_s))
  have g_b35 : (th_up (th_up (th_up (th_up Γ80_5 b18 (33, a0)) b27 (34, a0)) b35 (35, a0)) b43 (36, a0)) b35 = (35, a0) := (th_up_n (dd_b43_b35)).trans (th_up_s)
  have g_b43 : (th_up (th_up (th_up (th_up Γ80_5 b18 (33, a0)) b27 (34, a0)) b35 (35, a0)) b43 (36, a0)) b43 = (36, a0) := th_up_s
  have nm0 : ¬ th_MR G (th_up (th_up (th_up (th_up Γ80_5 b18 (33, a0)) b27 (34, a0)) b35 (35, a0)) b43 (36, a0)) H83_5 a0 := fun w => hB.2.2.1 (th_MR_up (show (33 : Nat) ≠ 12 by decide) (th_MR_up (show (34 : Nat) ≠ 12 by decide) (th_MR_up (show (35 : Nat) ≠ 12 by decide) (th_MR_up (show (36 : Nat) ≠ 12 by decide) w))))
  have hI2 := th_nmO (r := 32) hI1 ho hsz ro_32 rfl (fun j q hq => by
    match j, hq with
    | 0, hq => have e9 := Option.some.inj hq; subst e9; exact th_sR ((th_up_n nr_b5_b43).trans ((th_up_n nr_b5_b35).trans ((th_up_n nr_b5_b27).trans ((th_up_n nr_b5_b18).trans hr_b5xxxxxx))))
    | 1, hq => have e9 := Option.some.inj hq; subst e9; exact th_sO g_b18
    | 2, hq => have e9 := Option.some.inj hq; subst e9; exact th_sO g_b27
    | 3, hq => have e9 := Option.some.inj hq; subst e9; exact th_sO g_b35
    | 4, hq => have e9 := Option.some.inj hq; subst e9; exact th_sO g_b43
    | 5, hq => have e9 := Option.some.inj hq; subst e9; exact th_sI (x := 0) (by decide) (by decide)
    | 6, hq => have e9 := Option.some.inj hq; subst e9; exact th_sI (x := (-1)) (by decide) (by decide)
    | 7, hq => have e9 := Option.some.inj hq; subst e9; exact th_sI (x := 0) (by decide) (by decide)
    | n + 8, hq => exact absurd (List.getElem?_eq_some_iff.mp hq).1 (by simp))
  have hR2 := th_RC_up hI1 hR1 (x := (32, 0)) ho.1 nm0 hI2 (fun e => absurd e (by decide)) (fun e => absurd e (by decide)) (by decide)
  have hIN2 := th_IN_up (b := a0) (x := (32, 0)) hIN (ini_f (r := 32) ho rfl rfl rfl (fun j x hm => by
    rcases List.mem_cons.mp hm with e | hm
    · cases e; exact ⟨by decide, rfl⟩
    rcases List.mem_cons.mp hm with e | hm
    · cases e; exact ⟨by decide, rfl⟩
    rcases List.mem_cons.mp hm with e | hm
    · cases e; exact ⟨by decide, rfl⟩
    cases hm) (fun j d hm => by
    rcases List.mem_cons.mp hm with e | hm
    · cases e; exact ⟨by decide, by rw [← of_b5]; rfl⟩
    rcases List.mem_cons.mp hm with e | hm
    · cases e; exact ⟨by decide, by rw [← of_b18]; rfl⟩
    rcases List.mem_cons.mp hm with e | hm
    · cases e; exact ⟨by decide, by rw [← of_b27]; rfl⟩
    rcases List.mem_cons.mp hm with e | hm
    · cases e; exact ⟨by decide, by rw [← of_b35]; rfl⟩
    rcases List.mem_cons.mp hm with e | hm
    · cases e; exact ⟨by decide, by rw [← of_b43]; rfl⟩
    cases hm))
  have gq : ∀ q, q < H0.size → q ≠ a0 → (th_up (th_up (th_up (th_up (th_up Γ80_5 b18 (33, a0)) b27 (34, a0)) b35 (35, a0)) b43 (36, a0)) a0 (32, 0)) q = Γ80_5 q := fun q h1 h2 => (((((th_up_n h2).trans (th_up_n (by have q9 := lb43; omega))).trans (th_up_n (by have q9 := lb35; omega))).trans (th_up_n (by have q9 := lb27; omega))).trans (th_up_n (by have q9 := lb18; omega)))
  refine th_vret hC hH hr hlocks hB.1.2.1 ⟨rfl, (th_up (th_up (th_up (th_up (th_up Γ80_5 b18 (33, a0)) b27 (34, a0)) b35 (35, a0)) b43 (36, a0)) a0 (32, 0)), ⟨⟨hI2, (by omega), fun q h1 h2 => ⟨(gq q h1 h2).trans (hB.1.2.2.2.1 q h1 h2), hB.1.2.2.1 q h1 h2⟩⟩, hR2, th_up_s, fun q w => hB.2.2.2 q (th_MR_up (show (33 : Nat) ≠ 12 by decide) (th_MR_up (show (34 : Nat) ≠ 12 by decide) (th_MR_up (show (35 : Nat) ≠ 12 by decide) (th_MR_up (show (36 : Nat) ≠ 12 by decide) (th_MR_up (show (32 : Nat) ≠ 12 by decide) w))))), fun q x o hg hq hs => ?_⟩, hIN2, hs⟩ dX8_init_90
  by_cases e_a0 : q = a0
  · rw [e_a0, th_up_s] at hg; cases hg; decide
  rw [th_up_n e_a0] at hg
  by_cases e_b43 : q = b43
  · rw [e_b43, th_up_s] at hg; cases hg; decide
  rw [th_up_n e_b43] at hg
  by_cases e_b35 : q = b35
  · rw [e_b35, th_up_s] at hg; cases hg; decide
  rw [th_up_n e_b35] at hg
  by_cases e_b27 : q = b27
  · rw [e_b27, th_up_s] at hg; cases hg; decide
  rw [th_up_n e_b27] at hg
  by_cases e_b18 : q = b18
  · rw [e_b18, th_up_s] at hg; cases hg; decide
  rw [th_up_n e_b18] at hg
  exact (show ∀ x ∈ (((((((([] ++ [3, 4, 5, 6, 7, 8, 9, 10]) ++ [39, 40, 41]) ++ [39, 40, 41]) ++ [39, 40, 41]) ++ [39, 40, 41]) ++ [39, 40, 41]) ++ [39, 40, 41]) : List Nat), x ∈ [3, 4, 5, 6, 7, 8, 9, 10, 32, 33, 34, 35, 36, 39, 40, 41] by decide) x (hN q x o hg hq hs)

set_option maxHeartbeats 4000000 in
set_option maxRecDepth 100000 in
theorem c_X3_init_i (l : Launch) (G : th_G) (Γ : th_Ga) (H0 : Heap) (hI : th_I G Γ H0) (hR : th_RC G Γ H0) (a0 : Nat) (ho : th_OB G Γ H0 a0 3 7 (fun j => defaultValue (tyX3 j))) (hsz : G.2.2 ≤ a0) (hlt : a0 < H0.size) (hm : ¬ th_MR G Γ H0 a0) (hz1 : H0.size = a0 + 1) (hno : ∀ a o : Nat, Γ a ≠ (12, o)) : Met l yX3_init (.code yX3_init cX3_init 1 (none) :: th_tb) ({ frames := 1, cells := 4, slots := 3584, locals := 24 } : Room) (th_P [.ref a0] G H0) (th_Q (fun (v : Option Value) (H1 : Heap) => v = none ∧ ∃ Γ1 : th_Ga, th_NY G Γ Γ1 a0 12 [12] H0 H1 ∧ th_IN G Γ1 a0 H0 H1 ∧ H1.size = H0.size + 4) G) 4 3584 (fun q => G.2.2 ≤ q) := by
  refine th_met RX3 (by decide) rfl (Nat.le_of_ble_eq_true rfl) ?_
  intro p e s m below meth c hC hH hr hlocks hnm ls hl
  have hx := hC.1
  have hb := hC.2.1
  have hB : th_NR G Γ Γ a0 H0 H0 [] := ⟨⟨hI, va_S.rf, fun _ _ _ => rfl, fun _ _ _ => rfl, ho.1, hsz, hlt⟩, hR, hm, fun q w => Or.inl w⟩
  have hl : lv_has ls 1 [(0, .ref a0)] := hl
  have hs : H0.size ≤ H0.size := Nat.le_refl _
  have hN := th_new_0 (a0 := a0) hI ho.1
  have hIN := th_IN_0 (a0 := a0) hI ho.1
  refine lv_aload_n hx hb dX3_init_0 rfl (lv_at hl 0 rfl) ?_
  refine W.objInit hx hb hC.2.2.2.1 (hC.2.2.2.2.1 _ kw_295) (hC.2.2.2.2.1 _ kw_28) (hC.2.2.2.2.1 _ kw_29) rfl (hl.1.trans hC.2.2.1.symm) rfl dX3_init_1 (Nat.le_of_ble_eq_true rfl) (Nat.le_of_ble_eq_true rfl) ?_
  refine W.eq (g2 := F0 m 4 ls []) rfl ?_
  refine lv_aload_n hx hb dX3_init_4 rfl (lv_at hl 0 rfl) ?_
  refine lv_bipush (v := 10) hx hb dX3_init_5 (by decide) ?_
  refine tc_put hC cf_X3 hB.1 ho (j := 0) (by decide) rfl rfl rfl kf_X3_11 dX3_init_7 (fun H7 locs hB1 ho z7 oq7 => ?_)
  have hu := hB.1.2.2.2.2.1
  have hB := th_NR_s hB hB1 hu hB.2.2.1 (by omega) oq7
  have hIN := th_IN_s hIN hu oq7
  have hs : H7.size = H0.size + 0 := by omega
  refine lv_aload_n hx hb dX3_init_10 rfl (lv_at hl 0 rfl) ?_
  refine lv_sipush (v := 1024) hx hb dX3_init_11 (by decide) ?_
  refine tc_newa (ty := .long) (t := 1) hC hB.1 rfl rfl rfl kw_246 (N := 1024) tk_1024 (by decide) (Nat.le_of_ble_eq_true rfl) (Nat.le_of_ble_eq_true rfl) dX3_init_14 (fun b14 H14 eb14 zb14 oq14 hB1 k14 => ?_)
  have u14 := k14.2.1
  have n140 : ¬ th_MR G Γ H7 b14 := fun w => absurd (th_MR_lt hB.2.1 w) (by omega)
  have hB := th_NR_s hB hB1 u14 n140 (by omega) oq14
  have hIN := th_IN_s hIN u14 oq14
  have n14 : ¬ th_MR G Γ H14 b14 := fun w => n140 (th_MR_s u14 oq14 w)
  have lb14 : H0.size ≤ b14 := by omega
  have ho := tc_OBo ho oq14 (by omega)
  have hs : H14.size = H0.size + 1 := by omega
  have lt_b14 : b14 < H14.size := by omega
  have of_b14 : b14 = a0 + 1 := by omega
  refine tc_put hC cf_X3 hB.1 ho (j := 1) (by decide) rfl rfl rfl kf_X3_15 dX3_init_16 (fun H16 locs hB1 ho z16 oq16 => ?_)
  have hu := hB.1.2.2.2.2.1
  have hB := th_NR_s hB hB1 hu hB.2.2.1 (by omega) oq16
  have hIN := th_IN_s hIN hu oq16
  have k14x := tm_MAo k14 oq16 (by have q9 := lb14; omega)
  have n14x : ¬ th_MR G Γ H16 b14 := fun w => n14 (th_MR_s hu oq16 w)
  have hs : H16.size = H0.size + 1 := by omega
  have lt_b14 : b14 < H16.size := by omega
  refine lv_aload_n hx hb dX3_init_19 rfl (lv_at hl 0 rfl) ?_
  refine lv_sipush (v := 1024) hx hb dX3_init_20 (by decide) ?_
  refine tc_newa (ty := .int) (t := 0) hC hB.1 rfl rfl rfl kw_104 (N := 1024) tk_1024 (by decide) (Nat.le_of_ble_eq_true rfl) (Nat.le_of_ble_eq_true rfl) dX3_init_23 (fun b23 H23 eb23 zb23 oq23 hB1 k23 => ?_)
  have u23 := k23.2.1
  have n230 : ¬ th_MR G Γ H16 b23 := fun w => absurd (th_MR_lt hB.2.1 w) (by omega)
  have hB := th_NR_s hB hB1 u23 n230 (by omega) oq23
  have hIN := th_IN_s hIN u23 oq23
  have n23 : ¬ th_MR G Γ H23 b23 := fun w => n230 (th_MR_s u23 oq23 w)
  have lb23 : H0.size ≤ b23 := by omega
  have ho := tc_OBo ho oq23 (by omega)
  have k14xx := tm_MAo k14x oq23 (by have q9 := tm_lt k14x; omega)
  have n14xx : ¬ th_MR G Γ H23 b14 := fun w => n14x (th_MR_s u23 oq23 w)
  have hs : H23.size = H0.size + 2 := by omega
  have dd_b23_b14 : b14 ≠ b23 := by have q9 := lt_b14; omega
  have lt_b23 : b23 < H23.size := by omega
  have lt_b14 : b14 < H23.size := by omega
  have of_b23 : b23 = a0 + 2 := by omega
  refine tc_put hC cf_X3 hB.1 ho (j := 2) (by decide) rfl rfl rfl kf_X3_19 dX3_init_25 (fun H25 locs hB1 ho z25 oq25 => ?_)
  have hu := hB.1.2.2.2.2.1
  have hB := th_NR_s hB hB1 hu hB.2.2.1 (by omega) oq25
  have hIN := th_IN_s hIN hu oq25
  have k14xxx := tm_MAo k14xx oq25 (by have q9 := lb14; omega)
  have n14xxx : ¬ th_MR G Γ H25 b14 := fun w => n14xx (th_MR_s hu oq25 w)
  have k23x := tm_MAo k23 oq25 (by have q9 := lb23; omega)
  have n23x : ¬ th_MR G Γ H25 b23 := fun w => n23 (th_MR_s hu oq25 w)
  have hs : H25.size = H0.size + 2 := by omega
  have lt_b14 : b14 < H25.size := by omega
  have lt_b23 : b23 < H25.size := by omega
  refine lv_aload_n hx hb dX3_init_28 rfl (lv_at hl 0 rfl) ?_
  refine lv_sipush (v := 1024) hx hb dX3_init_29 (by decide) ?_
  refine tc_newa (ty := .int) (t := 0) hC hB.1 rfl rfl rfl kw_104 (N := 1024) tk_1024 (by decide) (Nat.le_of_ble_eq_true rfl) (Nat.le_of_ble_eq_true rfl) dX3_init_32 (fun b32 H32 eb32 zb32 oq32 hB1 k32 => ?_)
  have u32 := k32.2.1
  have n320 : ¬ th_MR G Γ H25 b32 := fun w => absurd (th_MR_lt hB.2.1 w) (by omega)
  have hB := th_NR_s hB hB1 u32 n320 (by omega) oq32
  have hIN := th_IN_s hIN u32 oq32
  have n32 : ¬ th_MR G Γ H32 b32 := fun w => n320 (th_MR_s u32 oq32 w)
  have lb32 : H0.size ≤ b32 := by omega
  have ho := tc_OBo ho oq32 (by omega)
  have k14xxxx := tm_MAo k14xxx oq32 (by have q9 := tm_lt k14xxx; omega)
  have n14xxxx : ¬ th_MR G Γ H32 b14 := fun w => n14xxx (th_MR_s u32 oq32 w)
  have k23xx := tm_MAo k23x oq32 (by have q9 := tm_lt k23x; omega)
  have n23xx : ¬ th_MR G Γ H32 b23 := fun w => n23x (th_MR_s u32 oq32 w)
  have hs : H32.size = H0.size + 3 := by omega
  have dd_b32_b14 : b14 ≠ b32 := by have q9 := lt_b14; omega
  have dd_b32_b23 : b23 ≠ b32 := by have q9 := lt_b23; omega
  have lt_b32 : b32 < H32.size := by omega
  have lt_b14 : b14 < H32.size := by omega
  have lt_b23 : b23 < H32.size := by omega
  have of_b32 : b32 = a0 + 3 := by omega
  refine tc_put hC cf_X3 hB.1 ho (j := 3) (by decide) rfl rfl rfl kf_X3_23 dX3_init_34 (fun H34 locs hB1 ho z34 oq34 => ?_)
  have hu := hB.1.2.2.2.2.1
  have hB := th_NR_s hB hB1 hu hB.2.2.1 (by omega) oq34
  have hIN := th_IN_s hIN hu oq34
  have k14xxxxx := tm_MAo k14xxxx oq34 (by have q9 := lb14; omega)
  have n14xxxxx : ¬ th_MR G Γ H34 b14 := fun w => n14xxxx (th_MR_s hu oq34 w)
  have k23xxx := tm_MAo k23xx oq34 (by have q9 := lb23; omega)
  have n23xxx : ¬ th_MR G Γ H34 b23 := fun w => n23xx (th_MR_s hu oq34 w)
  have k32x := tm_MAo k32 oq34 (by have q9 := lb32; omega)
  have n32x : ¬ th_MR G Γ H34 b32 := fun w => n32 (th_MR_s hu oq34 w)
  have hs : H34.size = H0.size + 3 := by omega
  have lt_b14 : b14 < H34.size := by omega
  have lt_b23 : b23 < H34.size := by omega
  have lt_b32 : b32 < H34.size := by omega
  refine lv_aload_n hx hb dX3_init_37 rfl (lv_at hl 0 rfl) ?_
  refine lv_sipush (v := 512) hx hb dX3_init_38 (by decide) ?_
  refine tc_newa (ty := .int) (t := 0) hC hB.1 rfl rfl rfl kw_104 (N := 512) tk_512 (by decide) (Nat.le_of_ble_eq_true rfl) (Nat.le_of_ble_eq_true rfl) dX3_init_41 (fun b41 H41 eb41 zb41 oq41 hB1 k41 => ?_)
  have u41 := k41.2.1
  have n410 : ¬ th_MR G Γ H34 b41 := fun w => absurd (th_MR_lt hB.2.1 w) (by omega)
  have hB := th_NR_s hB hB1 u41 n410 (by omega) oq41
  have hIN := th_IN_s hIN u41 oq41
  have n41 : ¬ th_MR G Γ H41 b41 := fun w => n410 (th_MR_s u41 oq41 w)
  have lb41 : H0.size ≤ b41 := by omega
  have ho := tc_OBo ho oq41 (by omega)
  have k14xxxxxx := tm_MAo k14xxxxx oq41 (by have q9 := tm_lt k14xxxxx; omega)
  have n14xxxxxx : ¬ th_MR G Γ H41 b14 := fun w => n14xxxxx (th_MR_s u41 oq41 w)
  have k23xxxx := tm_MAo k23xxx oq41 (by have q9 := tm_lt k23xxx; omega)
  have n23xxxx : ¬ th_MR G Γ H41 b23 := fun w => n23xxx (th_MR_s u41 oq41 w)
  have k32xx := tm_MAo k32x oq41 (by have q9 := tm_lt k32x; omega)
  have n32xx : ¬ th_MR G Γ H41 b32 := fun w => n32x (th_MR_s u41 oq41 w)
  have hs : H41.size = H0.size + 4 := by omega
  have dd_b41_b14 : b14 ≠ b41 := by have q9 := lt_b14; omega
  have dd_b41_b23 : b23 ≠ b41 := by have q9 := lt_b23; omega
  have dd_b41_b32 : b32 ≠ b41 := by have q9 := lt_b32; omega
  have lt_b41 : b41 < H41.size := by omega
  have lt_b14 : b14 < H41.size := by omega
  have lt_b23 : b23 < H41.size := by omega
  have lt_b32 : b32 < H41.size := by omega
  have of_b41 : b41 = a0 + 4 := by omega
  refine tc_put hC cf_X3 hB.1 ho (j := 4) (by decide) rfl rfl rfl kf_X3_26 dX3_init_43 (fun H43 locs hB1 ho z43 oq43 => ?_)
  have hu := hB.1.2.2.2.2.1
  have hB := th_NR_s hB hB1 hu hB.2.2.1 (by omega) oq43
  have hIN := th_IN_s hIN hu oq43
  have k14xxxxxxx := tm_MAo k14xxxxxx oq43 (by have q9 := lb14; omega)
  have n14xxxxxxx : ¬ th_MR G Γ H43 b14 := fun w => n14xxxxxx (th_MR_s hu oq43 w)
  have k23xxxxx := tm_MAo k23xxxx oq43 (by have q9 := lb23; omega)
  have n23xxxxx : ¬ th_MR G Γ H43 b23 := fun w => n23xxxx (th_MR_s hu oq43 w)
  have k32xxx := tm_MAo k32xx oq43 (by have q9 := lb32; omega)
  have n32xxx : ¬ th_MR G Γ H43 b32 := fun w => n32xx (th_MR_s hu oq43 w)
  have k41x := tm_MAo k41 oq43 (by have q9 := lb41; omega)
  have n41x : ¬ th_MR G Γ H43 b41 := fun w => n41 (th_MR_s hu oq43 w)
  have hs : H43.size = H0.size + 4 := by omega
  have lt_b14 : b14 < H43.size := by omega
  have lt_b23 : b23 < H43.size := by omega
  have lt_b32 : b32 < H43.size := by omega
  have lt_b41 : b41 < H43.size := by omega
  refine lv_aload_n hx hb dX3_init_46 rfl (lv_at hl 0 rfl) ?_
  refine lv_iconst (v := 0) hx hb dX3_init_47 (by decide) ?_
  refine tc_put hC cf_X3 hB.1 ho (j := 5) (by decide) rfl rfl rfl kf_X3_29 dX3_init_48 (fun H48 locs hB1 ho z48 oq48 => ?_)
  have hu := hB.1.2.2.2.2.1
  have hB := th_NR_s hB hB1 hu hB.2.2.1 (by omega) oq48
  have hIN := th_IN_s hIN hu oq48
  have k14xxxxxxxx := tm_MAo k14xxxxxxx oq48 (by have q9 := lb14; omega)
  have n14xxxxxxxx : ¬ th_MR G Γ H48 b14 := fun w => n14xxxxxxx (th_MR_s hu oq48 w)
  have k23xxxxxx := tm_MAo k23xxxxx oq48 (by have q9 := lb23; omega)
  have n23xxxxxx : ¬ th_MR G Γ H48 b23 := fun w => n23xxxxx (th_MR_s hu oq48 w)
  have k32xxxx := tm_MAo k32xxx oq48 (by have q9 := lb32; omega)
  have n32xxxx : ¬ th_MR G Γ H48 b32 := fun w => n32xxx (th_MR_s hu oq48 w)
  have k41xx := tm_MAo k41x oq48 (by have q9 := lb41; omega)
  have n41xx : ¬ th_MR G Γ H48 b41 := fun w => n41x (th_MR_s hu oq48 w)
  have hs : H48.size = H0.size + 4 := by omega
  have lt_b14 : b14 < H48.size := by omega
  have lt_b23 : b23 < H48.size := by omega
  have lt_b32 : b32 < H48.size := by omega
  have lt_b41 : b41 < H48.size := by omega
  refine lv_aload_n hx hb dX3_init_51 rfl (lv_at hl 0 rfl) ?_
  refine lv_iconst (v := 0) hx hb dX3_init_52 (by decide) ?_
  refine tc_put hC cf_X3 hB.1 ho (j := 6) (by decide) rfl narrow_b0 rfl kf_X3_32 dX3_init_53 (fun H53 locs hB1 ho z53 oq53 => ?_)
  have hu := hB.1.2.2.2.2.1
  have hB := th_NR_s hB hB1 hu hB.2.2.1 (by omega) oq53
  have hIN := th_IN_s hIN hu oq53
  have k14xxxxxxxxx := tm_MAo k14xxxxxxxx oq53 (by have q9 := lb14; omega)
  have n14xxxxxxxxx : ¬ th_MR G Γ H53 b14 := fun w => n14xxxxxxxx (th_MR_s hu oq53 w)
  have k23xxxxxxx := tm_MAo k23xxxxxx oq53 (by have q9 := lb23; omega)
  have n23xxxxxxx : ¬ th_MR G Γ H53 b23 := fun w => n23xxxxxx (th_MR_s hu oq53 w)
  have k32xxxxx := tm_MAo k32xxxx oq53 (by have q9 := lb32; omega)
  have n32xxxxx : ¬ th_MR G Γ H53 b32 := fun w => n32xxxx (th_MR_s hu oq53 w)
  have k41xxx := tm_MAo k41xx oq53 (by have q9 := lb41; omega)
  have n41xxx : ¬ th_MR G Γ H53 b41 := fun w => n41xx (th_MR_s hu oq53 w)
  have hs : H53.size = H0.size + 4 := by omega
  have lt_b14 : b14 < H53.size := by omega
  have lt_b23 : b23 < H53.size := by omega
  have lt_b32 : b32 < H53.size := by omega
  have lt_b41 : b41 < H53.size := by omega
  refine lv_aload_n hx hb dX3_init_56 rfl (lv_at hl 0 rfl) ?_
  refine tc_get hC cf_X3 ho (j := 1) (by decide) rfl kf_X3_15 dX3_init_57 ?_
  refine lv_ldc2 (v := (-1)) hx hb hC.2.2.2.1 (hC.2.2.2.2.1 _ kw_296) dX3_init_60 ?_
  refine th_call (th_runS (As := [.ref b14, .long (-1)]) (rest := []) hC mf_J7_fill_d0a16 km_X3_38 st_J7_fill_d0a16 (c_J7_fill_d0a16_m1024 l G Γ H53 hB.1.1 b14 (fun _ => 0) k14xxxxxxxxx (-1)) rfl rfl ⟨Nat.le_of_ble_eq_true rfl, Nat.le_of_ble_eq_true rfl⟩ rfl hl.1 rfl (Nat.le_of_ble_eq_true rfl) dX3_init_63 ⟨Nat.le_refl _, Nat.le_refl _⟩) hB.1.2.1 (fun v63 H63 locs hp hz hS => ?_)
  obtain ⟨rfl, hIf, hf, ⟨gf, kq⟩, hfr⟩ := hp
  have oq : ∀ q, q ≠ b14 → H63[q]? = H53[q]? := fun q hq => hfr q (by simpa using hq)
  have hB1 : th_N G Γ Γ a0 H0 H63 locs := ⟨hIf, hS, fun q h1 h2 => (oq q (by have q9 := lb14; omega)).trans (hB.1.2.2.1 q h1 h2), hB.1.2.2.2⟩
  have hq := k14xxxxxxxxx.2.1
  have hB := th_NR_s hB hB1 hq n14xxxxxxxxx hz oq
  have hIN := th_IN_s hIN hq oq
  have ho := tc_OBo ho oq (by have q9 := lb14; omega)
  have k23xxxxxxxx := tm_MAo k23xxxxxxx oq (fun e => dd_b23_b14 e.symm)
  have k32xxxxxx := tm_MAo k32xxxxx oq (fun e => dd_b32_b14 e.symm)
  have k41xxxx := tm_MAo k41xxx oq (fun e => dd_b41_b14 e.symm)
  have kf := kq
  have zf := sz_oq lt_b14 oq hz
  have hs : H63.size = H0.size + 4 := by omega
  refine W.eq (g2 := F0 m 66 ls []) rfl ?_
  have hI2 := th_nmO (r := 12) hB.1.1 ho hsz ro_12 rfl (fun j q hq => by
    match j, hq with
    | 0, hq => have e9 := Option.some.inj hq; subst e9; exact th_sI (x := 10) (by decide) (by decide)
    | 1, hq => have e9 := Option.some.inj hq; subst e9; exact th_s5
    | 2, hq => have e9 := Option.some.inj hq; subst e9; exact th_s5
    | 3, hq => have e9 := Option.some.inj hq; subst e9; exact th_s5
    | 4, hq => have e9 := Option.some.inj hq; subst e9; exact th_s5
    | 5, hq => have e9 := Option.some.inj hq; subst e9; exact th_sI (x := 0) (by decide) (by decide)
    | 6, hq => have e9 := Option.some.inj hq; subst e9; exact th_sI (x := 0) (by decide) (by decide)
    | n + 7, hq => exact absurd (List.getElem?_eq_some_iff.mp hq).1 (by simp))
  have hR2 := th_RC_mm hB.2.1 hno ho rfl rfl rfl rfl rfl rfl kf k23xxxxxxxx k32xxxxxx k41xxxx (fun e => dd_b23_b14 e) (fun e => dd_b32_b14 e) (fun e => dd_b41_b14 e) (fun e => dd_b32_b23 e) (fun e => dd_b41_b23 e) (fun e => dd_b41_b32 e) (by have q9 := lb14; omega) (by have q9 := lb23; omega) (by have q9 := lb32; omega) (by have q9 := lb41; omega)
  have hIN2 := th_IN_up (b := a0) (x := (12, 0)) hIN (ini_o rfl rfl rfl rfl)
  refine th_vret hC hH hr hlocks hB.1.2.1 ⟨rfl, th_up Γ a0 (12, 0), ⟨⟨hI2, (by omega), fun q h1 h2 => ⟨th_up_n h2, hB.1.2.2.1 q h1 h2⟩⟩, hR2, th_up_s, fun q w => Or.inr (th_MR_mm hno ho rfl rfl rfl rfl lb14 lb23 lb32 lb41 w), fun q x o hg hq hs => ?_⟩, hIN2, hs⟩ dX3_init_66
  by_cases e_a0 : q = a0
  · rw [e_a0, th_up_s] at hg; cases hg; decide
  rw [th_up_n e_a0] at hg
  exact (show ∀ x ∈ ([] : List Nat), x ∈ [12] by decide) x (hN q x o hg hq hs)

set_option maxHeartbeats 4000000 in
set_option maxRecDepth 100000 in
theorem c_X7_init_i (l : Launch) (G : th_G) (Γ : th_Ga) (H0 : Heap) (hI : th_I G Γ H0) (hR : th_RC G Γ H0) (a0 : Nat) (ho : th_OB G Γ H0 a0 7 14 (fun j => defaultValue (tyX7 j))) (hsz : G.2.2 ≤ a0) (hlt : a0 < H0.size) (hm : ¬ th_MR G Γ H0 a0) (hz1 : H0.size = a0 + 1) (hno : ∀ a o : Nat, Γ a ≠ (12, o)) : Met l yX7_init (.code yX7_init cX7_init 1 (none) :: th_tb) ({ frames := 2, cells := 9, slots := 7488, locals := 44 } : Room) (th_P [.ref a0] G H0) (th_Q (fun (v : Option Value) (H1 : Heap) => v = none ∧ ∃ Γ1 : th_Ga, th_NY G Γ Γ1 a0 27 [12, 27, 28, 29, 30, 31] H0 H1 ∧ th_IN G Γ1 a0 H0 H1 ∧ H1.size = H0.size + 9) G) 9 7488 (fun q => G.2.2 ≤ q) := by
  refine th_met RX7 (by decide) rfl (Nat.le_of_ble_eq_true rfl) ?_
  intro p e s m below meth c hC hH hr hlocks hnm ls hl
  have hx := hC.1
  have hb := hC.2.1
  have hB : th_NR G Γ Γ a0 H0 H0 [] := ⟨⟨hI, va_S.rf, fun _ _ _ => rfl, fun _ _ _ => rfl, ho.1, hsz, hlt⟩, hR, hm, fun q w => Or.inl w⟩
  have hl : lv_has ls 1 [(0, .ref a0)] := hl
  have hs : H0.size ≤ H0.size := Nat.le_refl _
  have hN := th_new_0 (a0 := a0) hI ho.1
  have hIN := th_IN_0 (a0 := a0) hI ho.1
  refine lv_aload_n hx hb dX7_init_0 rfl (lv_at hl 0 rfl) ?_
  refine W.objInit hx hb hC.2.2.2.1 (hC.2.2.2.2.1 _ kw_289) (hC.2.2.2.2.1 _ kw_28) (hC.2.2.2.2.1 _ kw_29) rfl (hl.1.trans hC.2.2.1.symm) rfl dX7_init_1 (Nat.le_of_ble_eq_true rfl) (Nat.le_of_ble_eq_true rfl) ?_
  refine W.eq (g2 := F0 m 4 ls []) rfl ?_
  refine lv_aload_n hx hb dX7_init_4 rfl (lv_at hl 0 rfl) ?_
  refine tc_new hC cf_X3 hB.1 kw_290 kw_291 kw_11 (Nat.le_of_ble_eq_true rfl) (Nat.le_of_ble_eq_true rfl) dX7_init_5 (fun b5 H5 eb5 zb5 oq5 hB1 kn => ?_)
  have n50 : ¬ th_MR G Γ H0 b5 := fun w => absurd (th_MR_lt hB.2.1 w) (by omega)
  have u5 := kn.1
  have hB := th_NR_s hB hB1 u5 n50 (by omega) oq5
  have hIN := th_IN_s hIN u5 oq5
  have nb : ¬ th_MR G Γ H5 b5 := fun w => n50 (th_MR_s u5 oq5 w)
  have ho := tc_OBo ho oq5 (by omega)
  have lbn : H0.size ≤ b5 := by omega
  have ltn : b5 < H5.size := by omega
  have szn : G.2.2 ≤ b5 := by have q9 := hB.1.2.2.2.2.2.1; have q8 := hB.1.2.2.2.2.2.2; omega
  have hs : H5.size = H0.size + 1 := by omega
  have of_b5 : b5 = a0 + 1 := by omega
  refine lv_dup hx hb dX7_init_8 rfl ?_
  refine th_call (th_runI (As := []) (rest := [.ref b5, .ref a0]) hC mf_X3_init km_X7_11 im_X3_init rfl (c_X3_init_i l G Γ H5 hB.1.1 hB.2.1 b5 kn szn ltn nb (by omega) hno) rfl rfl ⟨Nat.le_of_ble_eq_true rfl, Nat.le_of_ble_eq_true rfl⟩ rfl hl.1 rfl (Nat.le_of_ble_eq_true rfl) dX7_init_9 ⟨Nat.le_of_ble_eq_true rfl, Nat.le_of_ble_eq_true rfl⟩) hB.1.2.1 (fun v9 H9 locs hp hz hS => ?_)
  obtain ⟨rfl, Γ9, hy, hi, hzn⟩ := hp
  have hB := th_NR_c hB hy lbn hS
  have hIN := th_IN_c hIN hy hi
  have ho := tc_OBc ho hy (by omega) (by omega)
  have hr_b5 := hy.2.2.1
  have hs : H9.size = H0.size + 5 := by omega
  have lt_b5 : b5 < H9.size := by omega
  have hN := th_new_c hN hy
  refine W.eq (g2 := F0 m 12 ls [.ref b5, .ref a0]) rfl ?_
  refine tc_putF hC cf_X7 hB.1 ho (j := 0) (by decide) rfl hnm rfl rfl kf_X7_12 dX7_init_12 (fun H12 locs hB1 ho z12 oq12 => ?_)
  have hu := hB.1.2.2.2.2.1
  have hB := th_NR_s hB hB1 hu hB.2.2.1 (by omega) oq12
  have hIN := th_IN_s hIN hu oq12
  have hs : H12.size = H0.size + 5 := by omega
  have lt_b5 : b5 < H12.size := by omega
  refine lv_aload_n hx hb dX7_init_15 rfl (lv_at hl 0 rfl) ?_
  refine lv_sipush (v := 1296) hx hb dX7_init_16 (by decide) ?_
  refine tc_newa (ty := .int) (t := 0) hC hB.1 rfl rfl rfl kw_104 (N := 1296) tk_1296 (by decide) (Nat.le_of_ble_eq_true rfl) (Nat.le_of_ble_eq_true rfl) dX7_init_19 (fun b19 H19 eb19 zb19 oq19 hB1 k19 => ?_)
  have u19 := k19.2.1
  have n190 : ¬ th_MR G Γ9 H12 b19 := fun w => absurd (th_MR_lt hB.2.1 w) (by omega)
  have hB := th_NR_s hB hB1 u19 n190 (by omega) oq19
  have hIN := th_IN_s hIN u19 oq19
  have n19 : ¬ th_MR G Γ9 H19 b19 := fun w => n190 (th_MR_s u19 oq19 w)
  have lb19 : H0.size ≤ b19 := by omega
  have ho := tc_OBo ho oq19 (by omega)
  have hs : H19.size = H0.size + 6 := by omega
  have lt_b19 : b19 < H19.size := by omega
  have nr_b5_b19 : b5 ≠ b19 := by have q9 := lt_b5; omega
  have lt_b5 : b5 < H19.size := by omega
  have of_b19 : b19 = a0 + 6 := by omega
  refine tc_putF hC cf_X7 hB.1 ho (j := 1) (by decide) rfl hnm rfl rfl kf_X7_18 dX7_init_21 (fun H21 locs hB1 ho z21 oq21 => ?_)
  have hu := hB.1.2.2.2.2.1
  have hB := th_NR_s hB hB1 hu hB.2.2.1 (by omega) oq21
  have hIN := th_IN_s hIN hu oq21
  have k19x := tm_MAo k19 oq21 (by have q9 := lb19; omega)
  have n19x : ¬ th_MR G Γ9 H21 b19 := fun w => n19 (th_MR_s hu oq21 w)
  have hs : H21.size = H0.size + 6 := by omega
  have lt_b19 : b19 < H21.size := by omega
  have lt_b5 : b5 < H21.size := by omega
  refine lv_aload_n hx hb dX7_init_24 rfl (lv_at hl 0 rfl) ?_
  refine lv_sipush (v := 1296) hx hb dX7_init_25 (by decide) ?_
  refine tc_newa (ty := .int) (t := 0) hC hB.1 rfl rfl rfl kw_104 (N := 1296) tk_1296 (by decide) (Nat.le_of_ble_eq_true rfl) (Nat.le_of_ble_eq_true rfl) dX7_init_28 (fun b28 H28 eb28 zb28 oq28 hB1 k28 => ?_)
  have u28 := k28.2.1
  have n280 : ¬ th_MR G Γ9 H21 b28 := fun w => absurd (th_MR_lt hB.2.1 w) (by omega)
  have hB := th_NR_s hB hB1 u28 n280 (by omega) oq28
  have hIN := th_IN_s hIN u28 oq28
  have n28 : ¬ th_MR G Γ9 H28 b28 := fun w => n280 (th_MR_s u28 oq28 w)
  have lb28 : H0.size ≤ b28 := by omega
  have ho := tc_OBo ho oq28 (by omega)
  have k19xx := tm_MAo k19x oq28 (by have q9 := tm_lt k19x; omega)
  have n19xx : ¬ th_MR G Γ9 H28 b19 := fun w => n19x (th_MR_s u28 oq28 w)
  have hs : H28.size = H0.size + 7 := by omega
  have dd_b28_b19 : b19 ≠ b28 := by have q9 := lt_b19; omega
  have lt_b28 : b28 < H28.size := by omega
  have nr_b5_b28 : b5 ≠ b28 := by have q9 := lt_b5; omega
  have lt_b5 : b5 < H28.size := by omega
  have lt_b19 : b19 < H28.size := by omega
  have of_b28 : b28 = a0 + 7 := by omega
  refine tc_putF hC cf_X7 hB.1 ho (j := 2) (by decide) rfl hnm rfl rfl kf_X7_22 dX7_init_30 (fun H30 locs hB1 ho z30 oq30 => ?_)
  have hu := hB.1.2.2.2.2.1
  have hB := th_NR_s hB hB1 hu hB.2.2.1 (by omega) oq30
  have hIN := th_IN_s hIN hu oq30
  have k19xxx := tm_MAo k19xx oq30 (by have q9 := lb19; omega)
  have n19xxx : ¬ th_MR G Γ9 H30 b19 := fun w => n19xx (th_MR_s hu oq30 w)
  have k28x := tm_MAo k28 oq30 (by have q9 := lb28; omega)
  have n28x : ¬ th_MR G Γ9 H30 b28 := fun w => n28 (th_MR_s hu oq30 w)
  have hs : H30.size = H0.size + 7 := by omega
  have lt_b19 : b19 < H30.size := by omega
  have lt_b28 : b28 < H30.size := by omega
  have lt_b5 : b5 < H30.size := by omega
  refine lv_aload_n hx hb dX7_init_33 rfl (lv_at hl 0 rfl) ?_
  refine lv_sipush (v := 1296) hx hb dX7_init_34 (by decide) ?_
  refine tc_newa (ty := .int) (t := 0) hC hB.1 rfl rfl rfl kw_104 (N := 1296) tk_1296 (by decide) (Nat.le_of_ble_eq_true rfl) (Nat.le_of_ble_eq_true rfl) dX7_init_37 (fun b37 H37 eb37 zb37 oq37 hB1 k37 => ?_)
  have u37 := k37.2.1
  have n370 : ¬ th_MR G Γ9 H30 b37 := fun w => absurd (th_MR_lt hB.2.1 w) (by omega)
  have hB := th_NR_s hB hB1 u37 n370 (by omega) oq37
  have hIN := th_IN_s hIN u37 oq37
  have n37 : ¬ th_MR G Γ9 H37 b37 := fun w => n370 (th_MR_s u37 oq37 w)
  have lb37 : H0.size ≤ b37 := by omega
  have ho := tc_OBo ho oq37 (by omega)
  have k19xxxx := tm_MAo k19xxx oq37 (by have q9 := tm_lt k19xxx; omega)
  have n19xxxx : ¬ th_MR G Γ9 H37 b19 := fun w => n19xxx (th_MR_s u37 oq37 w)
  have k28xx := tm_MAo k28x oq37 (by have q9 := tm_lt k28x; omega)
  have n28xx : ¬ th_MR G Γ9 H37 b28 := fun w => n28x (th_MR_s u37 oq37 w)
  have hs : H37.size = H0.size + 8 := by omega
  have dd_b37_b19 : b19 ≠ b37 := by have q9 := lt_b19; omega
  have dd_b37_b28 : b28 ≠ b37 := by have q9 := lt_b28; omega
  have lt_b37 : b37 < H37.size := by omega
  have nr_b5_b37 : b5 ≠ b37 := by have q9 := lt_b5; omega
  have lt_b5 : b5 < H37.size := by omega
  have lt_b19 : b19 < H37.size := by omega
  have lt_b28 : b28 < H37.size := by omega
  have of_b37 : b37 = a0 + 8 := by omega
  refine tc_putF hC cf_X7 hB.1 ho (j := 3) (by decide) rfl hnm rfl rfl kf_X7_25 dX7_init_39 (fun H39 locs hB1 ho z39 oq39 => ?_)
  have hu := hB.1.2.2.2.2.1
  have hB := th_NR_s hB hB1 hu hB.2.2.1 (by omega) oq39
  have hIN := th_IN_s hIN hu oq39
  have k19xxxxx := tm_MAo k19xxxx oq39 (by have q9 := lb19; omega)
  have n19xxxxx : ¬ th_MR G Γ9 H39 b19 := fun w => n19xxxx (th_MR_s hu oq39 w)
  have k28xxx := tm_MAo k28xx oq39 (by have q9 := lb28; omega)
  have n28xxx : ¬ th_MR G Γ9 H39 b28 := fun w => n28xx (th_MR_s hu oq39 w)
  have k37x := tm_MAo k37 oq39 (by have q9 := lb37; omega)
  have n37x : ¬ th_MR G Γ9 H39 b37 := fun w => n37 (th_MR_s hu oq39 w)
  have hs : H39.size = H0.size + 8 := by omega
  have lt_b19 : b19 < H39.size := by omega
  have lt_b28 : b28 < H39.size := by omega
  have lt_b37 : b37 < H39.size := by omega
  have lt_b5 : b5 < H39.size := by omega
  refine lv_aload_n hx hb dX7_init_42 rfl (lv_at hl 0 rfl) ?_
  refine lv_bipush (v := 9) hx hb dX7_init_43 (by decide) ?_
  refine tc_newa (ty := .int) (t := 0) hC hB.1 rfl rfl rfl kw_104 (N := 9) tk_9 (by decide) (Nat.le_of_ble_eq_true rfl) (Nat.le_of_ble_eq_true rfl) dX7_init_45 (fun b45 H45 eb45 zb45 oq45 hB1 k45 => ?_)
  have u45 := k45.2.1
  have n450 : ¬ th_MR G Γ9 H39 b45 := fun w => absurd (th_MR_lt hB.2.1 w) (by omega)
  have hB := th_NR_s hB hB1 u45 n450 (by omega) oq45
  have hIN := th_IN_s hIN u45 oq45
  have n45 : ¬ th_MR G Γ9 H45 b45 := fun w => n450 (th_MR_s u45 oq45 w)
  have lb45 : H0.size ≤ b45 := by omega
  have ho := tc_OBo ho oq45 (by omega)
  have k19xxxxxx := tm_MAo k19xxxxx oq45 (by have q9 := tm_lt k19xxxxx; omega)
  have n19xxxxxx : ¬ th_MR G Γ9 H45 b19 := fun w => n19xxxxx (th_MR_s u45 oq45 w)
  have k28xxxx := tm_MAo k28xxx oq45 (by have q9 := tm_lt k28xxx; omega)
  have n28xxxx : ¬ th_MR G Γ9 H45 b28 := fun w => n28xxx (th_MR_s u45 oq45 w)
  have k37xx := tm_MAo k37x oq45 (by have q9 := tm_lt k37x; omega)
  have n37xx : ¬ th_MR G Γ9 H45 b37 := fun w => n37x (th_MR_s u45 oq45 w)
  have hs : H45.size = H0.size + 9 := by omega
  have dd_b45_b19 : b19 ≠ b45 := by have q9 := lt_b19; omega
  have dd_b45_b28 : b28 ≠ b45 := by have q9 := lt_b28; omega
  have dd_b45_b37 : b37 ≠ b45 := by have q9 := lt_b37; omega
  have lt_b45 : b45 < H45.size := by omega
  have nr_b5_b45 : b5 ≠ b45 := by have q9 := lt_b5; omega
  have lt_b5 : b5 < H45.size := by omega
  have lt_b19 : b19 < H45.size := by omega
  have lt_b28 : b28 < H45.size := by omega
  have lt_b37 : b37 < H45.size := by omega
  have of_b45 : b45 = a0 + 9 := by omega
  refine tc_putF hC cf_X7 hB.1 ho (j := 4) (by decide) rfl hnm rfl rfl kf_X7_28 dX7_init_47 (fun H47 locs hB1 ho z47 oq47 => ?_)
  have hu := hB.1.2.2.2.2.1
  have hB := th_NR_s hB hB1 hu hB.2.2.1 (by omega) oq47
  have hIN := th_IN_s hIN hu oq47
  have k19xxxxxxx := tm_MAo k19xxxxxx oq47 (by have q9 := lb19; omega)
  have n19xxxxxxx : ¬ th_MR G Γ9 H47 b19 := fun w => n19xxxxxx (th_MR_s hu oq47 w)
  have k28xxxxx := tm_MAo k28xxxx oq47 (by have q9 := lb28; omega)
  have n28xxxxx : ¬ th_MR G Γ9 H47 b28 := fun w => n28xxxx (th_MR_s hu oq47 w)
  have k37xxx := tm_MAo k37xx oq47 (by have q9 := lb37; omega)
  have n37xxx : ¬ th_MR G Γ9 H47 b37 := fun w => n37xx (th_MR_s hu oq47 w)
  have k45x := tm_MAo k45 oq47 (by have q9 := lb45; omega)
  have n45x : ¬ th_MR G Γ9 H47 b45 := fun w => n45 (th_MR_s hu oq47 w)
  have hs : H47.size = H0.size + 9 := by omega
  have lt_b19 : b19 < H47.size := by omega
  have lt_b28 : b28 < H47.size := by omega
  have lt_b37 : b37 < H47.size := by omega
  have lt_b45 : b45 < H47.size := by omega
  have lt_b5 : b5 < H47.size := by omega
  refine lv_aload_n hx hb dX7_init_50 rfl (lv_at hl 0 rfl) ?_
  refine lv_iconst (v := 0) hx hb dX7_init_51 (by decide) ?_
  refine tc_put hC cf_X7 hB.1 ho (j := 5) (by decide) rfl rfl rfl kf_X7_31 dX7_init_52 (fun H52 locs hB1 ho z52 oq52 => ?_)
  have hu := hB.1.2.2.2.2.1
  have hB := th_NR_s hB hB1 hu hB.2.2.1 (by omega) oq52
  have hIN := th_IN_s hIN hu oq52
  have k19xxxxxxxx := tm_MAo k19xxxxxxx oq52 (by have q9 := lb19; omega)
  have n19xxxxxxxx : ¬ th_MR G Γ9 H52 b19 := fun w => n19xxxxxxx (th_MR_s hu oq52 w)
  have k28xxxxxx := tm_MAo k28xxxxx oq52 (by have q9 := lb28; omega)
  have n28xxxxxx : ¬ th_MR G Γ9 H52 b28 := fun w => n28xxxxx (th_MR_s hu oq52 w)
  have k37xxxx := tm_MAo k37xxx oq52 (by have q9 := lb37; omega)
  have n37xxxx : ¬ th_MR G Γ9 H52 b37 := fun w => n37xxx (th_MR_s hu oq52 w)
  have k45xx := tm_MAo k45x oq52 (by have q9 := lb45; omega)
  have n45xx : ¬ th_MR G Γ9 H52 b45 := fun w => n45x (th_MR_s hu oq52 w)
  have hs : H52.size = H0.size + 9 := by omega
  have lt_b19 : b19 < H52.size := by omega
  have lt_b28 : b28 < H52.size := by omega
  have lt_b37 : b37 < H52.size := by omega
  have lt_b45 : b45 < H52.size := by omega
  have lt_b5 : b5 < H52.size := by omega
  refine lv_aload_n hx hb dX7_init_55 rfl (lv_at hl 0 rfl) ?_
  refine lv_iconst (v := 0) hx hb dX7_init_56 (by decide) ?_
  refine tc_put hC cf_X7 hB.1 ho (j := 6) (by decide) rfl rfl rfl kf_X7_35 dX7_init_57 (fun H57 locs hB1 ho z57 oq57 => ?_)
  have hu := hB.1.2.2.2.2.1
  have hB := th_NR_s hB hB1 hu hB.2.2.1 (by omega) oq57
  have hIN := th_IN_s hIN hu oq57
  have k19xxxxxxxxx := tm_MAo k19xxxxxxxx oq57 (by have q9 := lb19; omega)
  have n19xxxxxxxxx : ¬ th_MR G Γ9 H57 b19 := fun w => n19xxxxxxxx (th_MR_s hu oq57 w)
  have k28xxxxxxx := tm_MAo k28xxxxxx oq57 (by have q9 := lb28; omega)
  have n28xxxxxxx : ¬ th_MR G Γ9 H57 b28 := fun w => n28xxxxxx (th_MR_s hu oq57 w)
  have k37xxxxx := tm_MAo k37xxxx oq57 (by have q9 := lb37; omega)
  have n37xxxxx : ¬ th_MR G Γ9 H57 b37 := fun w => n37xxxx (th_MR_s hu oq57 w)
  have k45xxx := tm_MAo k45xx oq57 (by have q9 := lb45; omega)
  have n45xxx : ¬ th_MR G Γ9 H57 b45 := fun w => n45xx (th_MR_s hu oq57 w)
  have hs : H57.size = H0.size + 9 := by omega
  have lt_b19 : b19 < H57.size := by omega
  have lt_b28 : b28 < H57.size := by omega
  have lt_b37 : b37 < H57.size := by omega
  have lt_b45 : b45 < H57.size := by omega
  have lt_b5 : b5 < H57.size := by omega
  have hI1 := hB.1.1
  have hR1 := hB.2.1
  have hI2 := th_nmA (r := 28) (o := a0) hI1 k19xxxxxxxxx ro_28 (Nat.le_refl _) (Nat.le_refl _) (fun i _ => th_sI (x := 0) (by decide) (by decide))
  have hR1 := th_RC_up hI1 hR1 (x := (28, a0)) k19xxxxxxxxx.2.1 n19xxxxxxxxx hI2 (fun e => absurd (show (28 : Nat) = 3 from e) (by decide)) (fun e => absurd (show (28 : Nat) = 18 ∨ (28 : Nat) = 19 from e) (by decide)) (show (28 : Nat) ≠ 12 by decide)
  have hI1 := hI2
  have hIN := th_IN_up (b := b19) (x := (28, a0)) hIN (ini_r rfl rfl rfl rfl (fun i hi => th_sl_at k19xxxxxxxxx.2.2 (arrV_read _ _ hi)))
  have ho := th_OB_up (b := b19) (x := (28, a0)) ho (by have q9 := lb19; omega)
  have k28xxxxxxxu := th_MA_up (b := b19) (x := (28, a0)) k28xxxxxxx (fun e => dd_b28_b19 e.symm)
  have n28xxxxxxxu : ¬ th_MR G (th_up Γ9 b19 (28, a0)) H57 b28 := fun w => n28xxxxxxx (th_MR_up (show (28 : Nat) ≠ 12 by decide) w)
  have k37xxxxxu := th_MA_up (b := b19) (x := (28, a0)) k37xxxxx (fun e => dd_b37_b19 e.symm)
  have n37xxxxxu : ¬ th_MR G (th_up Γ9 b19 (28, a0)) H57 b37 := fun w => n37xxxxx (th_MR_up (show (28 : Nat) ≠ 12 by decide) w)
  have k45xxxu := th_MA_up (b := b19) (x := (28, a0)) k45xxx (fun e => dd_b45_b19 e.symm)
  have n45xxxu : ¬ th_MR G (th_up Γ9 b19 (28, a0)) H57 b45 := fun w => n45xxx (th_MR_up (show (28 : Nat) ≠ 12 by decide) w)
  have hI2 := th_nmA (r := 29) (o := a0) hI1 k28xxxxxxxu ro_29 (Nat.le_refl _) (Nat.le_refl _) (fun i _ => th_sI (x := 0) (by decide) (by decide))
  have hR1 := th_RC_up hI1 hR1 (x := (29, a0)) k28xxxxxxxu.2.1 n28xxxxxxxu hI2 (fun e => absurd (show (29 : Nat) = 3 from e) (by decide)) (fun e => absurd (show (29 : Nat) = 18 ∨ (29 : Nat) = 19 from e) (by decide)) (show (29 : Nat) ≠ 12 by decide)
  have hI1 := hI2
  have hIN := th_IN_up (b := b28) (x := (29, a0)) hIN (ini_r rfl rfl rfl rfl (fun i hi => th_sl_at k28xxxxxxx.2.2 (arrV_read _ _ hi)))
  have ho := th_OB_up (b := b28) (x := (29, a0)) ho (by have q9 := lb28; omega)
  have k37xxxxxuu := th_MA_up (b := b28) (x := (29, a0)) k37xxxxxu (fun e => dd_b37_b28 e.symm)
  have n37xxxxxuu : ¬ th_MR G (th_up (th_up Γ9 b19 (28, a0)) b28 (29, a0)) H57 b37 := fun w => n37xxxxxu (th_MR_up (show (29 : Nat) ≠ 12 by decide) w)
  have k45xxxuu := th_MA_up (b := b28) (x := (29, a0)) k45xxxu (fun e => dd_b45_b28 e.symm)
  have n45xxxuu : ¬ th_MR G (th_up (th_up Γ9 b19 (28, a0)) b28 (29, a0)) H57 b45 := fun w => n45xxxu (th_MR_up (show (29 : Nat) ≠ 12 by decide) w)
  have hI2 := th_nmA (r := 30) (o := a0) hI1 k37xxxxxuu ro_30 (Nat.le_refl _) (Nat.le_refl _) (fun i _ => th_sI (x := 0) (by decide) (by decide))
  have hR1 := th_RC_up hI1 hR1 (x := (30, a0)) k37xxxxxuu.2.1 n37xxxxxuu hI2 (fun e => absurd (show (30 : Nat) = 3 from e) (by decide)) (fun e => absurd (show (30 : Nat) = 18 ∨ (30 : Nat) = 19 from e) (by decide)) (show (30 : Nat) ≠ 12 by decide)
  have hI1 := hI2
  have hIN := th_IN_up (b := b37) (x := (30, a0)) hIN (ini_r rfl rfl rfl rfl (fun i hi => th_sl_at k37xxxxx.2.2 (arrV_read _ _ hi)))
  have ho := th_OB_up (b := b37) (x := (30, a0)) ho (by have q9 := lb37; omega)
  have k45xxxuuu := th_MA_up (b := b37) (x := (30, a0)) k45xxxuu (fun e => dd_b45_b37 e.symm)
  have n45xxxuuu : ¬ th_MR G (th_up (th_up (th_up Γ9 b19 (28, a0)) b28 (29, a0)) b37 (30, a0)) H57 b45 := fun w => n45xxxuu (th_MR_up (show (30 : Nat) ≠ 12 by decide) w)
  have hI2 := th_nmA (r := 31) (o := a0) hI1 k45xxxuuu ro_31 (Nat.le_refl _) (Nat.le_refl _) (fun i _ => th_sI (x := 0) (by decide) (by decide))
  have hR1 := th_RC_up hI1 hR1 (x := (31, a0)) k45xxxuuu.2.1 n45xxxuuu hI2 (fun e => absurd (show (31 : Nat) = 3 from e) (by decide)) (fun e => absurd (show (31 : Nat) = 18 ∨ (31 : Nat) = 19 from e) (by decide)) (show (31 : Nat) ≠ 12 by decide)
  have hI1 := hI2
  have hIN := th_IN_up (b := b45) (x := (31, a0)) hIN (ini_r rfl rfl rfl rfl (fun i hi => th_sl_at k45xxx.2.2 (arrV_read _ _ hi)))
  have ho := th_OB_up (b := b45) (x := (31, a0)) ho (by have q9 := lb45; omega)
  have g_b19 : (th_up (th_up (th_up (th_up Γ9 b19 (28, a0)) b28 (29, a0)) b37 (30, a0)) b45 (31, a0)) b19 = (28, a0) := (th_up_n (dd_b45_b19)).trans ((th_up_n (dd_b37_b19)).trans ((th_up_n (dd_b28_b19)).trans (th_up_s)))
  have g_b28 : (th_up (th_up (th_up (th_up Γ9 b19 (28, a0)) b28 (29, a0)) b37 (30, a0)) b45 (31, a0)) b28 = (29, a0) := (th_up_n (dd_b45_b28)).trans ((th_up_n (dd_b37_b28)).trans (th_up_s))
  have g_b37 : (th_up (th_up (th_up (th_up Γ9 b19 (28, a0)) b28 (29, a0)) b37 (30, a0)) b45 (31, a0)) b37 = (30, a0) := (th_up_n (dd_b45_b37)).trans (th_up_s)
  have g_b45 : (th_up (th_up (th_up (th_up Γ9 b19 (28, a0)) b28 (29, a0)) b37 (30, a0)) b45 (31, a0)) b45 = (31, a0) := th_up_s
  have nm0 : ¬ th_MR G (th_up (th_up (th_up (th_up Γ9 b19 (28, a0)) b28 (29, a0)) b37 (30, a0)) b45 (31, a0)) H57 a0 := fun w => hB.2.2.1 (th_MR_up (show (28 : Nat) ≠ 12 by decide) (th_MR_up (show (29 : Nat) ≠ 12 by decide) (th_MR_up (show (30 : Nat) ≠ 12 by decide) (th_MR_up (show (31 : Nat) ≠ 12 by decide) w))))
  have hI2 := th_nmO (r := 27) hI1 ho hsz ro_27 rfl (fun j q hq => by
    match j, hq with
    | 0, hq => have e9 := Option.some.inj hq; subst e9; exact th_sR ((th_up_n nr_b5_b45).trans ((th_up_n nr_b5_b37).trans ((th_up_n nr_b5_b28).trans ((th_up_n nr_b5_b19).trans hr_b5))))
    | 1, hq => have e9 := Option.some.inj hq; subst e9; exact th_sO g_b19
    | 2, hq => have e9 := Option.some.inj hq; subst e9; exact th_sO g_b28
    | 3, hq => have e9 := Option.some.inj hq; subst e9; exact th_sO g_b37
    | 4, hq => have e9 := Option.some.inj hq; subst e9; exact th_sO g_b45
    | 5, hq => have e9 := Option.some.inj hq; subst e9; exact th_sI (x := 0) (by decide) (by decide)
    | 6, hq => have e9 := Option.some.inj hq; subst e9; exact th_sI (x := 0) (by decide) (by decide)
    | 7, hq => have e9 := Option.some.inj hq; subst e9; exact th_sN
    | 8, hq => have e9 := Option.some.inj hq; subst e9; exact th_sN
    | 9, hq => have e9 := Option.some.inj hq; subst e9; exact th_sN
    | 10, hq => have e9 := Option.some.inj hq; subst e9; exact th_sN
    | 11, hq => have e9 := Option.some.inj hq; subst e9; exact th_sI (x := 0) (by decide) (by decide)
    | 12, hq => have e9 := Option.some.inj hq; subst e9; exact th_sI (x := 0) (by decide) (by decide)
    | 13, hq => have e9 := Option.some.inj hq; subst e9; exact th_sI (x := 0) (by decide) (by decide)
    | n + 14, hq => exact absurd (List.getElem?_eq_some_iff.mp hq).1 (by simp))
  have hR2 := th_RC_up hI1 hR1 (x := (27, 0)) ho.1 nm0 hI2 (fun e => absurd e (by decide)) (fun e => absurd e (by decide)) (by decide)
  have hIN2 := th_IN_up (b := a0) (x := (27, 0)) hIN (ini_f (r := 27) ho rfl rfl rfl (fun j x hm => by
    cases hm) (fun j d hm => by
    rcases List.mem_cons.mp hm with e | hm
    · cases e; exact ⟨by decide, by rw [← of_b5]; rfl⟩
    rcases List.mem_cons.mp hm with e | hm
    · cases e; exact ⟨by decide, by rw [← of_b19]; rfl⟩
    rcases List.mem_cons.mp hm with e | hm
    · cases e; exact ⟨by decide, by rw [← of_b28]; rfl⟩
    rcases List.mem_cons.mp hm with e | hm
    · cases e; exact ⟨by decide, by rw [← of_b37]; rfl⟩
    rcases List.mem_cons.mp hm with e | hm
    · cases e; exact ⟨by decide, by rw [← of_b45]; rfl⟩
    cases hm))
  have gq : ∀ q, q < H0.size → q ≠ a0 → (th_up (th_up (th_up (th_up (th_up Γ9 b19 (28, a0)) b28 (29, a0)) b37 (30, a0)) b45 (31, a0)) a0 (27, 0)) q = Γ9 q := fun q h1 h2 => (((((th_up_n h2).trans (th_up_n (by have q9 := lb45; omega))).trans (th_up_n (by have q9 := lb37; omega))).trans (th_up_n (by have q9 := lb28; omega))).trans (th_up_n (by have q9 := lb19; omega)))
  refine th_vret hC hH hr hlocks hB.1.2.1 ⟨rfl, (th_up (th_up (th_up (th_up (th_up Γ9 b19 (28, a0)) b28 (29, a0)) b37 (30, a0)) b45 (31, a0)) a0 (27, 0)), ⟨⟨hI2, (by omega), fun q h1 h2 => ⟨(gq q h1 h2).trans (hB.1.2.2.2.1 q h1 h2), hB.1.2.2.1 q h1 h2⟩⟩, hR2, th_up_s, fun q w => hB.2.2.2 q (th_MR_up (show (28 : Nat) ≠ 12 by decide) (th_MR_up (show (29 : Nat) ≠ 12 by decide) (th_MR_up (show (30 : Nat) ≠ 12 by decide) (th_MR_up (show (31 : Nat) ≠ 12 by decide) (th_MR_up (show (27 : Nat) ≠ 12 by decide) w))))), fun q x o hg hq hs => ?_⟩, hIN2, hs⟩ dX7_init_60
  by_cases e_a0 : q = a0
  · rw [e_a0, th_up_s] at hg; cases hg; decide
  rw [th_up_n e_a0] at hg
  by_cases e_b45 : q = b45
  · rw [e_b45, th_up_s] at hg; cases hg; decide
  rw [th_up_n e_b45] at hg
  by_cases e_b37 : q = b37
  · rw [e_b37, th_up_s] at hg; cases hg; decide
  rw [th_up_n e_b37] at hg
  by_cases e_b28 : q = b28
  · rw [e_b28, th_up_s] at hg; cases hg; decide
  rw [th_up_n e_b28] at hg
  by_cases e_b19 : q = b19
  · rw [e_b19, th_up_s] at hg; cases hg; decide
  rw [th_up_n e_b19] at hg
  exact (show ∀ x ∈ (([] ++ [12]) : List Nat), x ∈ [12, 27, 28, 29, 30, 31] by decide) x (hN q x o hg hq hs)

