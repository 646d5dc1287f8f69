section TIN
variable {G : th_G} {Γ Γ1 : th_Ga} {H H0 H1 : Heap} {a0 : Nat}
/-- what a new object's fields hold: class, fields -/
def th_iv (r : Nat) : Nat × List (Nat × Int32) := match r with
  | 1 => (0, [])
  | 3 => (1, [(7, 0), (8, 8), (9, 8), (10, 0)])
  | 11 => (2, [])
  | 17 => (4, [(3, 0), (4, 0)])
  | 20 => (5, [])
  | 23 => (6, [])
  | 27 => (7, [(6, 0)])
  | 32 => (8, [(5, 0), (6, (-1)), (7, 0)])
  | 37 => (9, [(1, 0)])
  | 39 => (10, [(2, 0), (3, 0)])
  | 42 => (11, [(14, 0), (15, (-1)), (16, 0), (17, (-1))])
  | _ => (0, [])
/-- what a new row holds: how long, what -/
def th_ir (r : Nat) : Option (Nat × (Nat → Int32)) := match r with
  | 4 => some (9, fun _ => 0)
  | 5 => some (9, fun _ => 0)
  | 6 => some (9, fun _ => 0)
  | 7 => some (9, fun _ => 0)
  | 8 => some (9, fun _ => 0)
  | 9 => some (3, fun i => if i = 1 then 1 else 0)
  | 10 => some (12, fun _ => 0)
  | 18 => some (480, fun _ => 0)
  | 19 => some (480, fun _ => 0)
  | 21 => some (401, fun _ => 0)
  | 22 => some (401, fun _ => 0)
  | 25 => some (23, fun _ => 0)
  | 26 => some (3, fun _ => 0)
  | 28 => some (1296, fun _ => 0)
  | 29 => some (1296, fun _ => 0)
  | 30 => some (1296, fun _ => 0)
  | 31 => some (9, fun _ => 0)
  | 34 => some (6, fun _ => 0)
  | 35 => some (6, fun _ => 0)
  | 36 => some (6, fun _ => 0)
  | 38 => some (400, fun _ => 0)
  | 40 => some (400, fun _ => 0)
  | 41 => some (96, fun _ => 0)
  | 44 => some (2, fun _ => 0)
  | 45 => some (5, fun _ => 0)
  | _ => none
def th_ip (r : Nat) : List (Nat × Nat) := match r with
  | 1 => [(0, 1)]
  | 3 => [(0, 1), (1, 2), (2, 3), (3, 4), (4, 5), (5, 6), (6, 7)]
  | 11 => [(0, 1)]
  | 17 => [(0, 1), (1, 2), (2, 3)]
  | 20 => [(0, 1), (1, 2)]
  | 23 => [(0, 1), (1, 2), (2, 3)]
  | 27 => [(0, 1), (1, 6), (2, 7), (3, 8), (4, 9)]
  | 32 => [(0, 1), (1, 9), (2, 10), (3, 11), (4, 12)]
  | 37 => [(0, 1)]
  | 39 => [(0, 1), (1, 2)]
  | 42 => [(0, 1), (1, 32), (2, 33), (3, 34), (4, 42), (5, 50), (6, 52), (7, 55), (8, 58), (9, 62), (10, 67), (11, 78), (12, 88), (13, 90)]
  | _ => []
def th_iq (r : Nat) : List (Nat × Nat) := match r with
  | 33 => [(0, 4), (1, 7), (2, 10), (3, 13), (4, 16), (5, 19)]
  | 43 => [(0, 59), (1, 90)]
  | _ => []
def th_ini (G : th_G) (H : Heap) (r q : Nat) : Prop := (∀ (j : Nat) (x : Int32), (j, x) ∈ (th_iv r).2 → th_sl H q (G.1.1.2 (th_iv r).1 j) = .int x) ∧ (∀ (n : Nat) (f : Nat → Int32), th_ir r = some (n, f) → ∀ i, i < n → th_sl H q i = .int (f i)) ∧ (∀ j d : Nat, (j, d) ∈ th_ip r → th_sl H q (G.1.1.2 (th_iv r).1 j) = .ref (q + d)) ∧ ∀ i d : Nat, (i, d) ∈ th_iq r → th_sl H q i = .ref (q + d)
def th_IN (G : th_G) (Γ : th_Ga) (a0 : Nat) (H0 H : Heap) : Prop := ∀ q r o : Nat, Γ q = (r, o) → (q = a0 ∨ H0.size ≤ q) → (th_ro r).isSome = true → th_ini G H r q
theorem th_ini_k {r q : Nat} (e : H1[q]? = H[q]?) (h : th_ini G H r q) : th_ini G H1 r q := ⟨fun j x hm => (th_sl_kept e _).trans (h.1 j x hm), fun n f hf i hi => (th_sl_kept e _).trans (h.2.1 n f hf i hi), fun j d hm => (th_sl_kept e _).trans (h.2.2.1 j d hm), fun j d hm => (th_sl_kept e _).trans (h.2.2.2 j d hm)⟩
theorem th_IN_0 (hI : th_I G Γ H0) (hu : th_ro (Γ a0).1 = none) : th_IN G Γ a0 H0 H0 := fun q r o hg hq hs => by
  have q9 : th_ro (Γ q).1 = none := by
    rcases hq with rfl | hq
    · exact hu
    · exact tc_un hI hq
  rw [hg] at q9
  rw [q9] at hs
  cases hs
theorem th_IN_s {b : Nat} (h : th_IN G Γ a0 H0 H) (hb : th_ro (Γ b).1 = none) (oq : ∀ q, q ≠ b → H1[q]? = H[q]?) : th_IN G Γ a0 H0 H1 := fun q r o hg hq hs => th_ini_k (oq q (fun e => by rw [← e, hg] at hb; rw [hb] at hs; cases hs)) (h q r o hg hq hs)
theorem th_IN_c {b r : Nat} {Ls : List Nat} (h : th_IN G Γ a0 H0 H) (hy : th_NY G Γ Γ1 b r Ls H H1) (hi : th_IN G Γ1 b H H1) : th_IN G Γ1 a0 H0 H1 := fun q x o hg hq hs => by
  by_cases w : q = b ∨ H.size ≤ q
  · exact hi q x o hg w hs
  · obtain ⟨e1, e2⟩ := hy.1.2.2 q (by omega) (by omega)
    rw [e1] at hg
    exact th_ini_k e2 (h q x o hg hq hs)
theorem th_IN_up {b : Nat} {x : Nat × Nat} (h : th_IN G Γ a0 H0 H) (hx : th_ini G H x.1 b) : th_IN G (th_up Γ b x) a0 H0 H := fun q r o hg hq hs => by
  by_cases e : q = b
  · rw [e, th_up_s] at hg
    rw [e]
    rw [hg] at hx
    exact hx
  · rw [th_up_n e] at hg
    exact h q r o hg hq hs
theorem ini_o {r q : Nat} (h1 : (th_iv r).2 = []) (h2 : th_ir r = none) (h3 : th_ip r = []) (h4 : th_iq r = []) : th_ini G H r q := ⟨fun j x hm => (by rw [h1] at hm; cases hm), fun n f hf => (by rw [h2] at hf; cases hf), fun j d hm => (by rw [h3] at hm; cases hm), fun j d hm => (by rw [h4] at hm; cases hm)⟩
theorem ini_q {r q : Nat} (h1 : (th_iv r).2 = []) (h2 : th_ir r = none) (h3 : th_ip r = []) (h : ∀ i d : Nat, (i, d) ∈ th_iq r → th_sl H q i = .ref (q + d)) : th_ini G H r q := ⟨fun j x hm => (by rw [h1] at hm; cases hm), fun n f hf => (by rw [h2] at hf; cases hf), fun j d hm => (by rw [h3] at hm; cases hm), h⟩
theorem ini_r {r q n : Nat} {f : Nat → Int32} (h1 : (th_iv r).2 = []) (h2 : th_ir r = some (n, f)) (h3 : th_ip r = []) (h4 : th_iq r = []) (h : ∀ i, i < n → th_sl H q i = .int (f i)) : th_ini G H r q := ⟨fun j x hm => (by rw [h1] at hm; cases hm), fun n' f' hf => (by cases h2.symm.trans hf; exact h), fun j d hm => (by rw [h3] at hm; cases hm), fun j d hm => (by rw [h4] at hm; cases hm)⟩
theorem ini_f {r q k N : Nat} {V : Nat → Value} (ho : th_OB G Γ H q k N V) (h1 : (th_iv r).1 = k) (h2 : th_ir r = none) (h4 : th_iq r = []) (h : ∀ (j : Nat) (x : Int32), (j, x) ∈ (th_iv r).2 → j < N ∧ V j = .int x) (h3 : ∀ j d : Nat, (j, d) ∈ th_ip r → j < N ∧ V j = .ref (q + d)) : th_ini G H r q := by
  obtain ⟨-, cell, q1, q2, q3, q4⟩ := ho
  refine ⟨fun j x hm => ?_, fun n f hf => (by rw [h2] at hf; cases hf), fun j d hm => ?_, fun j d hm => (by rw [h4] at hm; cases hm)⟩
  · obtain ⟨e1, e2⟩ := h j x hm
    rw [h1, ← e2]
    exact th_sl_at q1 (q4 j e1)
  · obtain ⟨e1, e2⟩ := h3 j d hm
    rw [h1, ← e2]
    exact th_sl_at q1 (q4 j e1)
theorem sz_oq {b : Nat} (hb : b < H.size) (oq : ∀ q, q ≠ b → H1[q]? = H[q]?) (hz : H.size ≤ H1.size) : H1.size = H.size := by
  have h := oq H.size (by omega)
  rw [Array.getElem?_eq_none (Nat.le_refl _)] at h
  have h2 := Array.getElem?_eq_none_iff.mp h
  omega

theorem of_lt {b k n : Nat} (hz1 : H0.size = a0 + 1) (hs : H1.size = H0.size + n) (ho : b = a0 + k) (h : k ≤ n) : b < H1.size := by omega
theorem of_ne {b c k j : Nat} (h1 : b = a0 + k) (h2 : c = a0 + j) (h : k ≠ j) : b ≠ c := by omega
theorem of_n0 {b k : Nat} (h1 : b = a0 + k) (h : k ≠ 0) : b ≠ a0 := by omega
theorem of_0n {b k : Nat} (h1 : b = a0 + k) (h : k ≠ 0) : a0 ≠ b := by omega
theorem of_ge {b k : Nat} (hz1 : H0.size = a0 + 1) (h1 : b = a0 + k) (h : 1 ≤ k) : H0.size ≤ b := by omega
end TIN
set_option maxHeartbeats 4000000 in
set_option maxRecDepth 100000 in
theorem c_X0_init_i (l : Launch) (G : th_G) (Γ : th_Ga) (H0 : Heap) (hI : th_I G Γ H0) (hR : th_RC G Γ H0) (a0 : Nat) (ho : th_OB G Γ H0 a0 0 1 (fun j => defaultValue (tyX0 j))) (hsz : G.1.2.2 ≤ a0) (hlt : a0 < H0.size) (hm : ¬ th_MR G Γ H0 a0) (hz1 : H0.size = a0 + 1) : Met l yX0_init (.code yX0_init cX0_init 1 (none) :: th_tb) ({ frames := 1, cells := 1, slots := 200, locals := 12 } : Room) (th_P [.ref a0] G H0) (th_Q (fun (v : Option Value) (H1 : Heap) => v = none ∧ ∃ Γ1 : th_Ga, th_NY G Γ Γ1 a0 1 [1, 2] H0 H1 ∧ th_IN G Γ1 a0 H0 H1 ∧ H1.size = H0.size + 1) G) 1 200 (fun q => G.1.2.2 ≤ q) := by
  refine th_met RX0 (by decide) rfl (Nat.le_of_ble_eq_true rfl) ?_
  intro p e s m below meth c hC hH hr hlocks hnm ls hl
  have hx := hC.1
  have hb := hC.2.1
  have hB : th_NR G Γ Γ a0 H0 H0 [] := ⟨⟨hI, va_S.rf, fun _ _ _ => rfl, fun _ _ _ => rfl, ho.1, hsz, hlt⟩, hR, hm, fun q w => Or.inl w⟩
  have hl : lv_has ls 1 [(0, .ref a0)] := hl
  have hs : H0.size ≤ H0.size := Nat.le_refl _
  have hN := th_new_0 (a0 := a0) hI ho.1
  have hIN := th_IN_0 (a0 := a0) hI ho.1
  refine lv_aload_n hx hb gX0_init_0.1 rfl (lv_at hl 0 rfl) ?_
  refine W.objInit hx hb hC.2.2.2.1 (hC.2.2.2.2.1 _ kw_372) (hC.2.2.2.2.1 _ kw_28) (hC.2.2.2.2.1 _ kw_29) rfl (hl.1.trans hC.2.2.1.symm) rfl gX0_init_0.2.1 (Nat.le_of_ble_eq_true rfl) (Nat.le_of_ble_eq_true rfl) ?_
  refine W.eq (g2 := F0 m 4 ls []) rfl ?_
  refine lv_aload_n hx hb gX0_init_0.2.2.1 rfl (lv_at hl 0 rfl) ?_
  refine lv_sipush (v := 200) hx hb gX0_init_0.2.2.2.1 (by decide) ?_
  refine tc_newa (ty := .long) (t := 1) hC hB.1 rfl rfl rfl kw_246 (N := 200) tk_200 (by decide) (Nat.le_of_ble_eq_true rfl) (Nat.le_of_ble_eq_true rfl) gX0_init_0.2.2.2.2.1 (fun b8 H8 eb8 zb8 oq8 hB1 k8 => ?_)
  have u8 := k8.2.1
  have of_b8 : b8 = a0 + 1 := by omega
  have n80 : ¬ th_MR G Γ H0 b8 := fun w => absurd (th_MR_lt hB.2.1 w) (by omega)
  have hB := th_NR_s hB hB1 u8 n80 (by omega) oq8
  have hIN := th_IN_s hIN u8 oq8
  have n8 : ¬ th_MR G Γ H8 b8 := fun w => n80 (th_MR_s u8 oq8 w)
  have lb8 : H0.size ≤ b8 := by omega
  have ho := tc_OBo ho oq8 (by omega)
  have hs : H8.size = H0.size + 1 := by omega
  refine tc_putF hC cf_X0 hB.1 ho (j := 0) (by decide) rfl hnm rfl rfl kf_X0_9 gX0_init_0.2.2.2.2.2.1 (fun H10 locs hB1 ho z10 oq10 => ?_)
  have hu := hB.1.2.2.2.2.1
  have hB := th_NR_s hB hB1 hu hB.2.2.1 (by omega) oq10
  have hIN := th_IN_s hIN hu oq10
  have k8x := tm_MAo k8 oq10 (of_n0 of_b8 (by decide))
  have n8x : ¬ th_MR G Γ H10 b8 := fun w => n8 (th_MR_s hu oq10 w)
  have hs : H10.size = H0.size + 1 := by omega
  have hI1 := hB.1.1
  have hR1 := hB.2.1
  have hI2 := th_nmA (r := 2) (o := a0) hI1 k8x ro_2 (Nat.le_refl _) (Nat.le_refl _) (fun i _ => th_sLa (x := 0))
  have hR1 := th_RC_up hI1 hR1 (x := (2, a0)) k8x.2.1 n8x hI2 (fun e => absurd (show (2 : Nat) = 3 from e) (by decide)) (fun e => absurd (show (2 : Nat) = 18 ∨ (2 : Nat) = 19 from e) (by decide)) (show (2 : Nat) ≠ 12 by decide)
  have hI1 := hI2
  have hIN := th_IN_up (b := b8) (x := (2, a0)) hIN (ini_o rfl rfl rfl rfl)
  have ho := th_OB_up (b := b8) (x := (2, a0)) ho (by have q9 := lb8; omega)
  have g_b8 : (th_up Γ b8 (2, a0)) b8 = (2, a0) := th_up_s
  have nm0 : ¬ th_MR G (th_up Γ b8 (2, a0)) H10 a0 := fun w => hB.2.2.1 (th_MR_up (show (2 : Nat) ≠ 12 by decide) w)
  have hI2 := th_nmO (r := 1) hI1 ho hsz ro_1 rfl (fun j q hq => by
    match j, hq with
    | 0, hq => have e9 := Option.some.inj hq; subst e9; exact th_sO g_b8
    | n + 1, hq => exact absurd (List.getElem?_eq_some_iff.mp hq).1 (by simp))
  have hR2 := th_RC_up hI1 hR1 (x := (1, 0)) ho.1 nm0 hI2 (fun e => absurd e (by decide)) (fun e => absurd e (by decide)) (by decide)
  have hIN2 := th_IN_up (b := a0) (x := (1, 0)) hIN (ini_f (r := 1) ho rfl rfl rfl (fun j x hm => by
    cases hm) (fun j d hm => by
    rcases List.mem_cons.mp hm with e | hm
    · cases e; exact ⟨by decide, by rw [← of_b8]; rfl⟩
    cases hm))
  have gq : ∀ q, q < H0.size → q ≠ a0 → (th_up (th_up Γ b8 (2, a0)) a0 (1, 0)) q = Γ q := fun q h1 h2 => ((th_up_n h2).trans (th_up_n (by have q9 := lb8; omega)))
  refine th_vret hC hH hr hlocks hB.1.2.1 ⟨rfl, (th_up (th_up Γ b8 (2, a0)) a0 (1, 0)), ⟨⟨hI2, (by omega), fun q h1 h2 => ⟨(gq q h1 h2).trans (hB.1.2.2.2.1 q h1 h2), hB.1.2.2.1 q h1 h2⟩⟩, hR2, th_up_s, fun q w => hB.2.2.2 q (th_MR_up (show (2 : Nat) ≠ 12 by decide) (th_MR_up (show (1 : Nat) ≠ 12 by decide) w)), fun q x o hg hq hs => ?_⟩, hIN2, hs⟩ gX0_init_0.2.2.2.2.2.2
  by_cases e_a0 : q = a0
  · rw [e_a0, th_up_s] at hg; cases hg; decide
  rw [th_up_n e_a0] at hg
  by_cases e_b8 : q = b8
  · rw [e_b8, th_up_s] at hg; cases hg; decide
  rw [th_up_n e_b8] at hg
  exact (show ∀ x ∈ ([] : List Nat), x ∈ [1, 2] by decide) x (hN q x o hg hq hs)

set_option maxHeartbeats 4000000 in
set_option maxRecDepth 100000 in
theorem c_X5_init_i (l : Launch) (G : th_G) (Γ : th_Ga) (H0 : Heap) (hI : th_I G Γ H0) (hR : th_RC G Γ H0) (a0 : Nat) (ho : th_OB G Γ H0 a0 5 9 (fun j => defaultValue (tyX5 j))) (hsz : G.1.2.2 ≤ a0) (hlt : a0 < H0.size) (hm : ¬ th_MR G Γ H0 a0) (hz1 : H0.size = a0 + 1) : Met l yX5_init (.code yX5_init cX5_init 1 (none) :: th_tb) ({ frames := 1, cells := 2, slots := 802, locals := 12 } : Room) (th_P [.ref a0] G H0) (th_Q (fun (v : Option Value) (H1 : Heap) => v = none ∧ ∃ Γ1 : th_Ga, th_NY G Γ Γ1 a0 20 [20, 21, 22] H0 H1 ∧ th_IN G Γ1 a0 H0 H1 ∧ H1.size = H0.size + 2) G) 2 802 (fun q => G.1.2.2 ≤ q) := by
  refine th_met RX5 (by decide) rfl (Nat.le_of_ble_eq_true rfl) ?_
  intro p e s m below meth c hC hH hr hlocks hnm ls hl
  have hx := hC.1
  have hb := hC.2.1
  have hB : th_NR G Γ Γ a0 H0 H0 [] := ⟨⟨hI, va_S.rf, fun _ _ _ => rfl, fun _ _ _ => rfl, ho.1, hsz, hlt⟩, hR, hm, fun q w => Or.inl w⟩
  have hl : lv_has ls 1 [(0, .ref a0)] := hl
  have hs : H0.size ≤ H0.size := Nat.le_refl _
  have hN := th_new_0 (a0 := a0) hI ho.1
  have hIN := th_IN_0 (a0 := a0) hI ho.1
  refine lv_aload_n hx hb gX5_init_0.1 rfl (lv_at hl 0 rfl) ?_
  refine W.objInit hx hb hC.2.2.2.1 (hC.2.2.2.2.1 _ kw_193) (hC.2.2.2.2.1 _ kw_28) (hC.2.2.2.2.1 _ kw_29) rfl (hl.1.trans hC.2.2.1.symm) rfl gX5_init_0.2.1 (Nat.le_of_ble_eq_true rfl) (Nat.le_of_ble_eq_true rfl) ?_
  refine W.eq (g2 := F0 m 4 ls []) rfl ?_
  refine lv_aload_n hx hb gX5_init_0.2.2.1 rfl (lv_at hl 0 rfl) ?_
  refine lv_sipush (v := 401) hx hb gX5_init_0.2.2.2.1 (by decide) ?_
  refine tc_newa (ty := .int) (t := 0) hC hB.1 rfl rfl rfl kw_104 (N := 401) tk_401 (by decide) (Nat.le_of_ble_eq_true rfl) (Nat.le_of_ble_eq_true rfl) gX5_init_0.2.2.2.2.1 (fun b8 H8 eb8 zb8 oq8 hB1 k8 => ?_)
  have u8 := k8.2.1
  have of_b8 : b8 = a0 + 1 := by omega
  have n80 : ¬ th_MR G Γ H0 b8 := fun w => absurd (th_MR_lt hB.2.1 w) (by omega)
  have hB := th_NR_s hB hB1 u8 n80 (by omega) oq8
  have hIN := th_IN_s hIN u8 oq8
  have n8 : ¬ th_MR G Γ H8 b8 := fun w => n80 (th_MR_s u8 oq8 w)
  have lb8 : H0.size ≤ b8 := by omega
  have ho := tc_OBo ho oq8 (by omega)
  have hs : H8.size = H0.size + 1 := by omega
  refine tc_putF hC cf_X5 hB.1 ho (j := 0) (by decide) rfl hnm rfl rfl kf_X5_11 gX5_init_0.2.2.2.2.2.1 (fun H10 locs hB1 ho z10 oq10 => ?_)
  have hu := hB.1.2.2.2.2.1
  have hB := th_NR_s hB hB1 hu hB.2.2.1 (by omega) oq10
  have hIN := th_IN_s hIN hu oq10
  have k8x := tm_MAo k8 oq10 (of_n0 of_b8 (by decide))
  have n8x : ¬ th_MR G Γ H10 b8 := fun w => n8 (th_MR_s hu oq10 w)
  have hs : H10.size = H0.size + 1 := by omega
  refine lv_aload_n hx hb gX5_init_0.2.2.2.2.2.2.1 rfl (lv_at hl 0 rfl) ?_
  refine lv_sipush (v := 401) hx hb gX5_init_0.2.2.2.2.2.2.2 (by decide) ?_
  refine tc_newa (ty := .int) (t := 0) hC hB.1 rfl rfl rfl kw_104 (N := 401) tk_401 (by decide) (Nat.le_of_ble_eq_true rfl) (Nat.le_of_ble_eq_true rfl) gX5_init_1.1 (fun b17 H17 eb17 zb17 oq17 hB1 k17 => ?_)
  have u17 := k17.2.1
  have of_b17 : b17 = a0 + 2 := by omega
  have n170 : ¬ th_MR G Γ H10 b17 := fun w => absurd (th_MR_lt hB.2.1 w) (by omega)
  have hB := th_NR_s hB hB1 u17 n170 (by omega) oq17
  have hIN := th_IN_s hIN u17 oq17
  have n17 : ¬ th_MR G Γ H17 b17 := fun w => n170 (th_MR_s u17 oq17 w)
  have lb17 : H0.size ≤ b17 := by omega
  have ho := tc_OBo ho oq17 (by omega)
  have k8xx := tm_MAo k8x oq17 (of_ne of_b8 of_b17 (by decide))
  have n8xx : ¬ th_MR G Γ H17 b8 := fun w => n8x (th_MR_s u17 oq17 w)
  have hs : H17.size = H0.size + 2 := by omega
  refine tc_putF hC cf_X5 hB.1 ho (j := 1) (by decide) rfl hnm rfl rfl kf_X5_15 gX5_init_1.2.1 (fun H19 locs hB1 ho z19 oq19 => ?_)
  have hu := hB.1.2.2.2.2.1
  have hB := th_NR_s hB hB1 hu hB.2.2.1 (by omega) oq19
  have hIN := th_IN_s hIN hu oq19
  have k8xxx := tm_MAo k8xx oq19 (of_n0 of_b8 (by decide))
  have n8xxx : ¬ th_MR G Γ H19 b8 := fun w => n8xx (th_MR_s hu oq19 w)
  have k17x := tm_MAo k17 oq19 (of_n0 of_b17 (by decide))
  have n17x : ¬ th_MR G Γ H19 b17 := fun w => n17 (th_MR_s hu oq19 w)
  have hs : H19.size = H0.size + 2 := by omega
  have hI1 := hB.1.1
  have hR1 := hB.2.1
  have hI2 := th_nmA (r := 21) (o := a0) hI1 k8xxx ro_21 (Nat.le_refl _) (Nat.le_refl _) (fun i _ => th_sI (x := 0) (by decide) (by decide))
  have hR1 := th_RC_up hI1 hR1 (x := (21, a0)) k8xxx.2.1 n8xxx hI2 (fun e => absurd (show (21 : Nat) = 3 from e) (by decide)) (fun e => absurd (show (21 : Nat) = 18 ∨ (21 : Nat) = 19 from e) (by decide)) (show (21 : Nat) ≠ 12 by decide)
  have hI1 := hI2
  have hIN := th_IN_up (b := b8) (x := (21, a0)) hIN (ini_r rfl rfl rfl rfl (fun i hi => th_sl_at k8xxx.2.2 (arrV_read _ _ hi)))
  have ho := th_OB_up (b := b8) (x := (21, a0)) ho (by have q9 := lb8; omega)
  have k17xu := th_MA_up (b := b8) (x := (21, a0)) k17x (fun e => (of_ne of_b8 of_b17 (by decide)) e.symm)
  have n17xu : ¬ th_MR G (th_up Γ b8 (21, a0)) H19 b17 := fun w => n17x (th_MR_up (show (21 : Nat) ≠ 12 by decide) w)
  have hI2 := th_nmA (r := 22) (o := a0) hI1 k17xu ro_22 (Nat.le_refl _) (Nat.le_refl _) (fun i _ => th_sI (x := 0) (by decide) (by decide))
  have hR1 := th_RC_up hI1 hR1 (x := (22, a0)) k17xu.2.1 n17xu hI2 (fun e => absurd (show (22 : Nat) = 3 from e) (by decide)) (fun e => absurd (show (22 : Nat) = 18 ∨ (22 : Nat) = 19 from e) (by decide)) (show (22 : Nat) ≠ 12 by decide)
  have hI1 := hI2
  have hIN := th_IN_up (b := b17) (x := (22, a0)) hIN (ini_r rfl rfl rfl rfl (fun i hi => th_sl_at k17x.2.2 (arrV_read _ _ hi)))
  have ho := th_OB_up (b := b17) (x := (22, a0)) ho (by have q9 := lb17; omega)
  have g_b8 : (th_up (th_up Γ b8 (21, a0)) b17 (22, a0)) b8 = (21, a0) := (th_up_n ((of_ne of_b8 of_b17 (by decide)))).trans (th_up_s)
  have g_b17 : (th_up (th_up Γ b8 (21, a0)) b17 (22, a0)) b17 = (22, a0) := th_up_s
  have nm0 : ¬ th_MR G (th_up (th_up Γ b8 (21, a0)) b17 (22, a0)) H19 a0 := fun w => hB.2.2.1 (th_MR_up (show (21 : Nat) ≠ 12 by decide) (th_MR_up (show (22 : Nat) ≠ 12 by decide) w))
  have hI2 := th_nmO (r := 20) hI1 ho hsz ro_20 rfl (fun j q hq => by
    match j, hq with
    | 0, hq => have e9 := Option.some.inj hq; subst e9; exact th_sO g_b8
    | 1, hq => have e9 := Option.some.inj hq; subst e9; exact th_sO g_b17
    | 2, hq => have e9 := Option.some.inj hq; subst e9; exact th_sN
    | 3, hq => have e9 := Option.some.inj hq; subst e9; exact th_sN
    | 4, hq => have e9 := Option.some.inj hq; subst e9; exact th_sI (x := 0) (by decide) (by decide)
    | 5, hq => have e9 := Option.some.inj hq; subst e9; exact th_sI (x := 0) (by decide) (by decide)
    | 6, hq => have e9 := Option.some.inj hq; subst e9; exact th_sI (x := 0) (by decide) (by decide)
    | 7, hq => have e9 := Option.some.inj hq; subst e9; exact th_sI (x := 0) (by decide) (by decide)
    | 8, hq => have e9 := Option.some.inj hq; subst e9; exact th_sI (x := 0) (by decide) (by decide)
    | n + 9, hq => exact absurd (List.getElem?_eq_some_iff.mp hq).1 (by simp))
  have hR2 := th_RC_up hI1 hR1 (x := (20, 0)) ho.1 nm0 hI2 (fun e => absurd e (by decide)) (fun e => absurd e (by decide)) (by decide)
  have hIN2 := th_IN_up (b := a0) (x := (20, 0)) hIN (ini_f (r := 20) ho rfl rfl rfl (fun j x hm => by
    cases hm) (fun j d hm => by
    rcases List.mem_cons.mp hm with e | hm
    · cases e; exact ⟨by decide, by rw [← of_b8]; rfl⟩
    rcases List.mem_cons.mp hm with e | hm
    · cases e; exact ⟨by decide, by rw [← of_b17]; rfl⟩
    cases hm))
  have gq : ∀ q, q < H0.size → q ≠ a0 → (th_up (th_up (th_up Γ b8 (21, a0)) b17 (22, a0)) a0 (20, 0)) q = Γ q := fun q h1 h2 => (((th_up_n h2).trans (th_up_n (by have q9 := lb17; omega))).trans (th_up_n (by have q9 := lb8; omega)))
  refine th_vret hC hH hr hlocks hB.1.2.1 ⟨rfl, (th_up (th_up (th_up Γ b8 (21, a0)) b17 (22, a0)) a0 (20, 0)), ⟨⟨hI2, (by omega), fun q h1 h2 => ⟨(gq q h1 h2).trans (hB.1.2.2.2.1 q h1 h2), hB.1.2.2.1 q h1 h2⟩⟩, hR2, th_up_s, fun q w => hB.2.2.2 q (th_MR_up (show (21 : Nat) ≠ 12 by decide) (th_MR_up (show (22 : Nat) ≠ 12 by decide) (th_MR_up (show (20 : Nat) ≠ 12 by decide) w))), fun q x o hg hq hs => ?_⟩, hIN2, hs⟩ gX5_init_1.2.2
  by_cases e_a0 : q = a0
  · rw [e_a0, th_up_s] at hg; cases hg; decide
  rw [th_up_n e_a0] at hg
  by_cases e_b17 : q = b17
  · rw [e_b17, th_up_s] at hg; cases hg; decide
  rw [th_up_n e_b17] at hg
  by_cases e_b8 : q = b8
  · rw [e_b8, th_up_s] at hg; cases hg; decide
  rw [th_up_n e_b8] at hg
  exact (show ∀ x ∈ ([] : List Nat), x ∈ [20, 21, 22] by decide) x (hN q x o hg hq hs)

set_option maxHeartbeats 4000000 in
set_option maxRecDepth 100000 in
theorem c_X6_init_i (l : Launch) (G : th_G) (Γ : th_Ga) (H0 : Heap) (hI : th_I G Γ H0) (hR : th_RC G Γ H0) (a0 : Nat) (ho : th_OB G Γ H0 a0 6 4 (fun j => defaultValue (tyX6 j))) (hsz : G.1.2.2 ≤ a0) (hlt : a0 < H0.size) (hm : ¬ th_MR G Γ H0 a0) (hz1 : H0.size = a0 + 1) : Met l yX6_init (.code yX6_init cX6_init 1 (none) :: th_tb) ({ frames := 1, cells := 3, slots := 90, locals := 12 } : Room) (th_P [.ref a0] G H0) (th_Q (fun (v : Option Value) (H1 : Heap) => v = none ∧ ∃ Γ1 : th_Ga, th_NY G Γ Γ1 a0 23 [23, 24, 25, 26] H0 H1 ∧ th_IN G Γ1 a0 H0 H1 ∧ H1.size = H0.size + 3) G) 3 90 (fun q => G.1.2.2 ≤ q) := by
  refine th_met RX6 (by decide) rfl (Nat.le_of_ble_eq_true rfl) ?_
  intro p e s m below meth c hC hH hr hlocks hnm ls hl
  have hx := hC.1
  have hb := hC.2.1
  have hB : th_NR G Γ Γ a0 H0 H0 [] := ⟨⟨hI, va_S.rf, fun _ _ _ => rfl, fun _ _ _ => rfl, ho.1, hsz, hlt⟩, hR, hm, fun q w => Or.inl w⟩
  have hl : lv_has ls 1 [(0, .ref a0)] := hl
  have hs : H0.size ≤ H0.size := Nat.le_refl _
  have hN := th_new_0 (a0 := a0) hI ho.1
  have hIN := th_IN_0 (a0 := a0) hI ho.1
  refine lv_aload_n hx hb gX6_init_0.1 rfl (lv_at hl 0 rfl) ?_
  refine W.objInit hx hb hC.2.2.2.1 (hC.2.2.2.2.1 _ kw_229) (hC.2.2.2.2.1 _ kw_28) (hC.2.2.2.2.1 _ kw_29) rfl (hl.1.trans hC.2.2.1.symm) rfl gX6_init_0.2.1 (Nat.le_of_ble_eq_true rfl) (Nat.le_of_ble_eq_true rfl) ?_
  refine W.eq (g2 := F0 m 4 ls []) rfl ?_
  refine lv_aload_n hx hb gX6_init_0.2.2.1 rfl (lv_at hl 0 rfl) ?_
  refine lv_bipush (v := 64) hx hb gX6_init_0.2.2.2.1 (by decide) ?_
  refine tc_newa (ty := .long) (t := 1) hC hB.1 rfl rfl rfl kw_246 (N := 64) tk_64 (by decide) (Nat.le_of_ble_eq_true rfl) (Nat.le_of_ble_eq_true rfl) gX6_init_0.2.2.2.2.1 (fun b7 H7 eb7 zb7 oq7 hB1 k7 => ?_)
  have u7 := k7.2.1
  have of_b7 : b7 = a0 + 1 := by omega
  have n70 : ¬ th_MR G Γ H0 b7 := fun w => absurd (th_MR_lt hB.2.1 w) (by omega)
  have hB := th_NR_s hB hB1 u7 n70 (by omega) oq7
  have hIN := th_IN_s hIN u7 oq7
  have n7 : ¬ th_MR G Γ H7 b7 := fun w => n70 (th_MR_s u7 oq7 w)
  have lb7 : H0.size ≤ b7 := by omega
  have ho := tc_OBo ho oq7 (by omega)
  have hs : H7.size = H0.size + 1 := by omega
  refine tc_putF hC cf_X6 hB.1 ho (j := 0) (by decide) rfl hnm rfl rfl kf_X6_9 gX6_init_0.2.2.2.2.2.1 (fun H9 locs hB1 ho z9 oq9 => ?_)
  have hu := hB.1.2.2.2.2.1
  have hB := th_NR_s hB hB1 hu hB.2.2.1 (by omega) oq9
  have hIN := th_IN_s hIN hu oq9
  have k7x := tm_MAo k7 oq9 (of_n0 of_b7 (by decide))
  have n7x : ¬ th_MR G Γ H9 b7 := fun w => n7 (th_MR_s hu oq9 w)
  have hs : H9.size = H0.size + 1 := by omega
  refine lv_aload_n hx hb gX6_init_0.2.2.2.2.2.2.1 rfl (lv_at hl 0 rfl) ?_
  refine lv_bipush (v := 23) hx hb gX6_init_0.2.2.2.2.2.2.2 (by decide) ?_
  refine tc_newa (ty := .int) (t := 0) hC hB.1 rfl rfl rfl kw_104 (N := 23) tk_23 (by decide) (Nat.le_of_ble_eq_true rfl) (Nat.le_of_ble_eq_true rfl) gX6_init_1.1 (fun b15 H15 eb15 zb15 oq15 hB1 k15 => ?_)
  have u15 := k15.2.1
  have of_b15 : b15 = a0 + 2 := by omega
  have n150 : ¬ th_MR G Γ H9 b15 := fun w => absurd (th_MR_lt hB.2.1 w) (by omega)
  have hB := th_NR_s hB hB1 u15 n150 (by omega) oq15
  have hIN := th_IN_s hIN u15 oq15
  have n15 : ¬ th_MR G Γ H15 b15 := fun w => n150 (th_MR_s u15 oq15 w)
  have lb15 : H0.size ≤ b15 := by omega
  have ho := tc_OBo ho oq15 (by omega)
  have k7xx := tm_MAo k7x oq15 (of_ne of_b7 of_b15 (by decide))
  have n7xx : ¬ th_MR G Γ H15 b7 := fun w => n7x (th_MR_s u15 oq15 w)
  have hs : H15.size = H0.size + 2 := by omega
  refine tc_putF hC cf_X6 hB.1 ho (j := 1) (by decide) rfl hnm rfl rfl kf_X6_17 gX6_init_1.2.1 (fun H17 locs hB1 ho z17 oq17 => ?_)
  have hu := hB.1.2.2.2.2.1
  have hB := th_NR_s hB hB1 hu hB.2.2.1 (by omega) oq17
  have hIN := th_IN_s hIN hu oq17
  have k7xxx := tm_MAo k7xx oq17 (of_n0 of_b7 (by decide))
  have n7xxx : ¬ th_MR G Γ H17 b7 := fun w => n7xx (th_MR_s hu oq17 w)
  have k15x := tm_MAo k15 oq17 (of_n0 of_b15 (by decide))
  have n15x : ¬ th_MR G Γ H17 b15 := fun w => n15 (th_MR_s hu oq17 w)
  have hs : H17.size = H0.size + 2 := by omega
  refine lv_aload_n hx hb gX6_init_1.2.2.1 rfl (lv_at hl 0 rfl) ?_
  refine lv_iconst (v := 3) hx hb gX6_init_1.2.2.2.1 (by decide) ?_
  refine tc_newa (ty := .int) (t := 0) hC hB.1 rfl rfl rfl kw_104 (N := 3) tk_3 (by decide) (Nat.le_of_ble_eq_true rfl) (Nat.le_of_ble_eq_true rfl) gX6_init_1.2.2.2.2.1 (fun b22 H22 eb22 zb22 oq22 hB1 k22 => ?_)
  have u22 := k22.2.1
  have of_b22 : b22 = a0 + 3 := by omega
  have n220 : ¬ th_MR G Γ H17 b22 := fun w => absurd (th_MR_lt hB.2.1 w) (by omega)
  have hB := th_NR_s hB hB1 u22 n220 (by omega) oq22
  have hIN := th_IN_s hIN u22 oq22
  have n22 : ¬ th_MR G Γ H22 b22 := fun w => n220 (th_MR_s u22 oq22 w)
  have lb22 : H0.size ≤ b22 := by omega
  have ho := tc_OBo ho oq22 (by omega)
  have k7xxxx := tm_MAo k7xxx oq22 (of_ne of_b7 of_b22 (by decide))
  have n7xxxx : ¬ th_MR G Γ H22 b7 := fun w => n7xxx (th_MR_s u22 oq22 w)
  have k15xx := tm_MAo k15x oq22 (of_ne of_b15 of_b22 (by decide))
  have n15xx : ¬ th_MR G Γ H22 b15 := fun w => n15x (th_MR_s u22 oq22 w)
  have hs : H22.size = H0.size + 3 := by omega
  refine tc_putF hC cf_X6 hB.1 ho (j := 2) (by decide) rfl hnm rfl rfl kf_X6_23 gX6_init_1.2.2.2.2.2.1 (fun H24 locs hB1 ho z24 oq24 => ?_)
  have hu := hB.1.2.2.2.2.1
  have hB := th_NR_s hB hB1 hu hB.2.2.1 (by omega) oq24
  have hIN := th_IN_s hIN hu oq24
  have k7xxxxx := tm_MAo k7xxxx oq24 (of_n0 of_b7 (by decide))
  have n7xxxxx : ¬ th_MR G Γ H24 b7 := fun w => n7xxxx (th_MR_s hu oq24 w)
  have k15xxx := tm_MAo k15xx oq24 (of_n0 of_b15 (by decide))
  have n15xxx : ¬ th_MR G Γ H24 b15 := fun w => n15xx (th_MR_s hu oq24 w)
  have k22x := tm_MAo k22 oq24 (of_n0 of_b22 (by decide))
  have n22x : ¬ th_MR G Γ H24 b22 := fun w => n22 (th_MR_s hu oq24 w)
  have hs : H24.size = H0.size + 3 := by omega
  refine lv_aload_n hx hb gX6_init_1.2.2.2.2.2.2.1 rfl (lv_at hl 0 rfl) ?_
  refine lv_iconst (v := 0) hx hb gX6_init_1.2.2.2.2.2.2.2 (by decide) ?_
  refine tc_put hC cf_X6 hB.1 ho (j := 3) (by decide) rfl narrow_b0 rfl kf_X6_26 gX6_init_2.1 (fun H29 locs hB1 ho z29 oq29 => ?_)
  have hu := hB.1.2.2.2.2.1
  have hB := th_NR_s hB hB1 hu hB.2.2.1 (by omega) oq29
  have hIN := th_IN_s hIN hu oq29
  have k7xxxxxx := tm_MAo k7xxxxx oq29 (of_n0 of_b7 (by decide))
  have n7xxxxxx : ¬ th_MR G Γ H29 b7 := fun w => n7xxxxx (th_MR_s hu oq29 w)
  have k15xxxx := tm_MAo k15xxx oq29 (of_n0 of_b15 (by decide))
  have n15xxxx : ¬ th_MR G Γ H29 b15 := fun w => n15xxx (th_MR_s hu oq29 w)
  have k22xx := tm_MAo k22x oq29 (of_n0 of_b22 (by decide))
  have n22xx : ¬ th_MR G Γ H29 b22 := fun w => n22x (th_MR_s hu oq29 w)
  have hs : H29.size = H0.size + 3 := by omega
  have hI1 := hB.1.1
  have hR1 := hB.2.1
  have hI2 := th_nmA (r := 24) (o := a0) hI1 k7xxxxxx ro_24 (Nat.le_refl _) (Nat.le_refl _) (fun i _ => th_sLa (x := 0))
  have hR1 := th_RC_up hI1 hR1 (x := (24, a0)) k7xxxxxx.2.1 n7xxxxxx hI2 (fun e => absurd (show (24 : Nat) = 3 from e) (by decide)) (fun e => absurd (show (24 : Nat) = 18 ∨ (24 : Nat) = 19 from e) (by decide)) (show (24 : Nat) ≠ 12 by decide)
  have hI1 := hI2
  have hIN := th_IN_up (b := b7) (x := (24, a0)) hIN (ini_o rfl rfl rfl rfl)
  have ho := th_OB_up (b := b7) (x := (24, a0)) ho (by have q9 := lb7; omega)
  have k15xxxxu := th_MA_up (b := b7) (x := (24, a0)) k15xxxx (fun e => (of_ne of_b7 of_b15 (by decide)) e.symm)
  have n15xxxxu : ¬ th_MR G (th_up Γ b7 (24, a0)) H29 b15 := fun w => n15xxxx (th_MR_up (show (24 : Nat) ≠ 12 by decide) w)
  have k22xxu := th_MA_up (b := b7) (x := (24, a0)) k22xx (fun e => (of_ne of_b7 of_b22 (by decide)) e.symm)
  have n22xxu : ¬ th_MR G (th_up Γ b7 (24, a0)) H29 b22 := fun w => n22xx (th_MR_up (show (24 : Nat) ≠ 12 by decide) w)
  have hI2 := th_nmA (r := 25) (o := a0) hI1 k15xxxxu ro_25 (Nat.le_refl _) (Nat.le_refl _) (fun i _ => th_sI (x := 0) (by decide) (by decide))
  have hR1 := th_RC_up hI1 hR1 (x := (25, a0)) k15xxxxu.2.1 n15xxxxu hI2 (fun e => absurd (show (25 : Nat) = 3 from e) (by decide)) (fun e => absurd (show (25 : Nat) = 18 ∨ (25 : Nat) = 19 from e) (by decide)) (show (25 : Nat) ≠ 12 by decide)
  have hI1 := hI2
  have hIN := th_IN_up (b := b15) (x := (25, a0)) hIN (ini_r rfl rfl rfl rfl (fun i hi => th_sl_at k15xxxx.2.2 (arrV_read _ _ hi)))
  have ho := th_OB_up (b := b15) (x := (25, a0)) ho (by have q9 := lb15; omega)
  have k22xxuu := th_MA_up (b := b15) (x := (25, a0)) k22xxu (fun e => (of_ne of_b15 of_b22 (by decide)) e.symm)
  have n22xxuu : ¬ th_MR G (th_up (th_up Γ b7 (24, a0)) b15 (25, a0)) H29 b22 := fun w => n22xxu (th_MR_up (show (25 : Nat) ≠ 12 by decide) w)
  have hI2 := th_nmA (r := 26) (o := a0) hI1 k22xxuu ro_26 (Nat.le_refl _) (Nat.le_refl _) (fun i _ => th_sI (x := 0) (by decide) (by decide))
  have hR1 := th_RC_up hI1 hR1 (x := (26, a0)) k22xxuu.2.1 n22xxuu hI2 (fun e => absurd (show (26 : Nat) = 3 from e) (by decide)) (fun e => absurd (show (26 : Nat) = 18 ∨ (26 : Nat) = 19 from e) (by decide)) (show (26 : Nat) ≠ 12 by decide)
  have hI1 := hI2
  have hIN := th_IN_up (b := b22) (x := (26, a0)) hIN (ini_r rfl rfl rfl rfl (fun i hi => th_sl_at k22xx.2.2 (arrV_read _ _ hi)))
  have ho := th_OB_up (b := b22) (x := (26, a0)) ho (by have q9 := lb22; omega)
  have g_b7 : (th_up (th_up (th_up Γ b7 (24, a0)) b15 (25, a0)) b22 (26, a0)) b7 = (24, a0) := (th_up_n ((of_ne of_b7 of_b22 (by decide)))).trans ((th_up_n ((of_ne of_b7 of_b15 (by decide)))).trans (th_up_s))
  have g_b15 : (th_up (th_up (th_up Γ b7 (24, a0)) b15 (25, a0)) b22 (26, a0)) b15 = (25, a0) := (th_up_n ((of_ne of_b15 of_b22 (by decide)))).trans (th_up_s)
  have g_b22 : (th_up (th_up (th_up Γ b7 (24, a0)) b15 (25, a0)) b22 (26, a0)) b22 = (26, a0) := th_up_s
  have nm0 : ¬ th_MR G (th_up (th_up (th_up Γ b7 (24, a0)) b15 (25, a0)) b22 (26, a0)) H29 a0 := fun w => hB.2.2.1 (th_MR_up (show (24 : Nat) ≠ 12 by decide) (th_MR_up (show (25 : Nat) ≠ 12 by decide) (th_MR_up (show (26 : Nat) ≠ 12 by decide) w)))
  have hI2 := th_nmO (r := 23) hI1 ho hsz ro_23 rfl (fun j q hq => by
    match j, hq with
    | 0, hq => have e9 := Option.some.inj hq; subst e9; exact th_sO g_b7
    | 1, hq => have e9 := Option.some.inj hq; subst e9; exact th_sO g_b15
    | 2, hq => have e9 := Option.some.inj hq; subst e9; exact th_sO g_b22
    | 3, hq => have e9 := Option.some.inj hq; subst e9; exact th_sI (x := 0) (by decide) (by decide)
    | n + 4, hq => exact absurd (List.getElem?_eq_some_iff.mp hq).1 (by simp))
  have hR2 := th_RC_up hI1 hR1 (x := (23, 0)) ho.1 nm0 hI2 (fun e => absurd e (by decide)) (fun e => absurd e (by decide)) (by decide)
  have hIN2 := th_IN_up (b := a0) (x := (23, 0)) hIN (ini_f (r := 23) ho rfl rfl rfl (fun j x hm => by
    cases hm) (fun j d hm => by
    rcases List.mem_cons.mp hm with e | hm
    · cases e; exact ⟨by decide, by rw [← of_b7]; rfl⟩
    rcases List.mem_cons.mp hm with e | hm
    · cases e; exact ⟨by decide, by rw [← of_b15]; rfl⟩
    rcases List.mem_cons.mp hm with e | hm
    · cases e; exact ⟨by decide, by rw [← of_b22]; rfl⟩
    cases hm))
  have gq : ∀ q, q < H0.size → q ≠ a0 → (th_up (th_up (th_up (th_up Γ b7 (24, a0)) b15 (25, a0)) b22 (26, a0)) a0 (23, 0)) q = Γ q := fun q h1 h2 => ((((th_up_n h2).trans (th_up_n (by have q9 := lb22; omega))).trans (th_up_n (by have q9 := lb15; omega))).trans (th_up_n (by have q9 := lb7; omega)))
  refine th_vret hC hH hr hlocks hB.1.2.1 ⟨rfl, (th_up (th_up (th_up (th_up Γ b7 (24, a0)) b15 (25, a0)) b22 (26, a0)) a0 (23, 0)), ⟨⟨hI2, (by omega), fun q h1 h2 => ⟨(gq q h1 h2).trans (hB.1.2.2.2.1 q h1 h2), hB.1.2.2.1 q h1 h2⟩⟩, hR2, th_up_s, fun q w => hB.2.2.2 q (th_MR_up (show (24 : Nat) ≠ 12 by decide) (th_MR_up (show (25 : Nat) ≠ 12 by decide) (th_MR_up (show (26 : Nat) ≠ 12 by decide) (th_MR_up (show (23 : Nat) ≠ 12 by decide) w)))), fun q x o hg hq hs => ?_⟩, hIN2, hs⟩ gX6_init_2.2
  by_cases e_a0 : q = a0
  · rw [e_a0, th_up_s] at hg; cases hg; decide
  rw [th_up_n e_a0] at hg
  by_cases e_b22 : q = b22
  · rw [e_b22, th_up_s] at hg; cases hg; decide
  rw [th_up_n e_b22] at hg
  by_cases e_b15 : q = b15
  · rw [e_b15, th_up_s] at hg; cases hg; decide
  rw [th_up_n e_b15] at hg
  by_cases e_b7 : q = b7
  · rw [e_b7, th_up_s] at hg; cases hg; decide
  rw [th_up_n e_b7] at hg
  exact (show ∀ x ∈ ([] : List Nat), x ∈ [23, 24, 25, 26] by decide) x (hN q x o hg hq hs)

set_option maxHeartbeats 4000000 in
set_option maxRecDepth 100000 in
theorem c_X9_init_i (l : Launch) (G : th_G) (Γ : th_Ga) (H0 : Heap) (hI : th_I G Γ H0) (hR : th_RC G Γ H0) (a0 : Nat) (ho : th_OB G Γ H0 a0 9 2 (fun j => defaultValue (tyX9 j))) (hsz : G.1.2.2 ≤ a0) (hlt : a0 < H0.size) (hm : ¬ th_MR G Γ H0 a0) (hz1 : H0.size = a0 + 1) : Met l yX9_init (.code yX9_init cX9_init 1 (none) :: th_tb) ({ frames := 1, cells := 1, slots := 400, locals := 12 } : Room) (th_P [.ref a0] G H0) (th_Q (fun (v : Option Value) (H1 : Heap) => v = none ∧ ∃ Γ1 : th_Ga, th_NY G Γ Γ1 a0 37 [37, 38] H0 H1 ∧ th_IN G Γ1 a0 H0 H1 ∧ H1.size = H0.size + 1) G) 1 400 (fun q => G.1.2.2 ≤ q) := by
  refine th_met RX9 (by decide) rfl (Nat.le_of_ble_eq_true rfl) ?_
  intro p e s m below meth c hC hH hr hlocks hnm ls hl
  have hx := hC.1
  have hb := hC.2.1
  have hB : th_NR G Γ Γ a0 H0 H0 [] := ⟨⟨hI, va_S.rf, fun _ _ _ => rfl, fun _ _ _ => rfl, ho.1, hsz, hlt⟩, hR, hm, fun q w => Or.inl w⟩
  have hl : lv_has ls 1 [(0, .ref a0)] := hl
  have hs : H0.size ≤ H0.size := Nat.le_refl _
  have hN := th_new_0 (a0 := a0) hI ho.1
  have hIN := th_IN_0 (a0 := a0) hI ho.1
  refine lv_aload_n hx hb gX9_init_0.1 rfl (lv_at hl 0 rfl) ?_
  refine W.objInit hx hb hC.2.2.2.1 (hC.2.2.2.2.1 _ kw_175) (hC.2.2.2.2.1 _ kw_28) (hC.2.2.2.2.1 _ kw_29) rfl (hl.1.trans hC.2.2.1.symm) rfl gX9_init_0.2.1 (Nat.le_of_ble_eq_true rfl) (Nat.le_of_ble_eq_true rfl) ?_
  refine W.eq (g2 := F0 m 4 ls []) rfl ?_
  refine lv_aload_n hx hb gX9_init_0.2.2.1 rfl (lv_at hl 0 rfl) ?_
  refine lv_sipush (v := 400) hx hb gX9_init_0.2.2.2.1 (by decide) ?_
  refine tc_newa (ty := .int) (t := 0) hC hB.1 rfl rfl rfl kw_104 (N := 400) tk_400 (by decide) (Nat.le_of_ble_eq_true rfl) (Nat.le_of_ble_eq_true rfl) gX9_init_0.2.2.2.2.1 (fun b8 H8 eb8 zb8 oq8 hB1 k8 => ?_)
  have u8 := k8.2.1
  have of_b8 : b8 = a0 + 1 := by omega
  have n80 : ¬ th_MR G Γ H0 b8 := fun w => absurd (th_MR_lt hB.2.1 w) (by omega)
  have hB := th_NR_s hB hB1 u8 n80 (by omega) oq8
  have hIN := th_IN_s hIN u8 oq8
  have n8 : ¬ th_MR G Γ H8 b8 := fun w => n80 (th_MR_s u8 oq8 w)
  have lb8 : H0.size ≤ b8 := by omega
  have ho := tc_OBo ho oq8 (by omega)
  have hs : H8.size = H0.size + 1 := by omega
  refine tc_putF hC cf_X9 hB.1 ho (j := 0) (by decide) rfl hnm rfl rfl kf_X9_9 gX9_init_0.2.2.2.2.2.1 (fun H10 locs hB1 ho z10 oq10 => ?_)
  have hu := hB.1.2.2.2.2.1
  have hB := th_NR_s hB hB1 hu hB.2.2.1 (by omega) oq10
  have hIN := th_IN_s hIN hu oq10
  have k8x := tm_MAo k8 oq10 (of_n0 of_b8 (by decide))
  have n8x : ¬ th_MR G Γ H10 b8 := fun w => n8 (th_MR_s hu oq10 w)
  have hs : H10.size = H0.size + 1 := by omega
  refine lv_aload_n hx hb gX9_init_0.2.2.2.2.2.2.1 rfl (lv_at hl 0 rfl) ?_
  refine lv_iconst (v := 0) hx hb gX9_init_0.2.2.2.2.2.2.2 (by decide) ?_
  refine tc_put hC cf_X9 hB.1 ho (j := 1) (by decide) rfl rfl rfl kf_X9_15 gX9_init_1.1 (fun H15 locs hB1 ho z15 oq15 => ?_)
  have hu := hB.1.2.2.2.2.1
  have hB := th_NR_s hB hB1 hu hB.2.2.1 (by omega) oq15
  have hIN := th_IN_s hIN hu oq15
  have k8xx := tm_MAo k8x oq15 (of_n0 of_b8 (by decide))
  have n8xx : ¬ th_MR G Γ H15 b8 := fun w => n8x (th_MR_s hu oq15 w)
  have hs : H15.size = H0.size + 1 := by omega
  have hI1 := hB.1.1
  have hR1 := hB.2.1
  have hI2 := th_nmA (r := 38) (o := a0) hI1 k8xx ro_38 (Nat.le_refl _) (Nat.le_refl _) (fun i _ => th_sI (x := 0) (by decide) (by decide))
  have hR1 := th_RC_up hI1 hR1 (x := (38, a0)) k8xx.2.1 n8xx hI2 (fun e => absurd (show (38 : Nat) = 3 from e) (by decide)) (fun e => absurd (show (38 : Nat) = 18 ∨ (38 : Nat) = 19 from e) (by decide)) (show (38 : Nat) ≠ 12 by decide)
  have hI1 := hI2
  have hIN := th_IN_up (b := b8) (x := (38, a0)) hIN (ini_r rfl rfl rfl rfl (fun i hi => th_sl_at k8xx.2.2 (arrV_read _ _ hi)))
  have ho := th_OB_up (b := b8) (x := (38, a0)) ho (by have q9 := lb8; omega)
  have g_b8 : (th_up Γ b8 (38, a0)) b8 = (38, a0) := th_up_s
  have nm0 : ¬ th_MR G (th_up Γ b8 (38, a0)) H15 a0 := fun w => hB.2.2.1 (th_MR_up (show (38 : Nat) ≠ 12 by decide) w)
  have hI2 := th_nmO (r := 37) hI1 ho hsz ro_37 rfl (fun j q hq => by
    match j, hq with
    | 0, hq => have e9 := Option.some.inj hq; subst e9; exact th_sO g_b8
    | 1, hq => have e9 := Option.some.inj hq; subst e9; exact th_sI (x := 0) (by decide) (by decide)
    | n + 2, hq => exact absurd (List.getElem?_eq_some_iff.mp hq).1 (by simp))
  have hR2 := th_RC_up hI1 hR1 (x := (37, 0)) ho.1 nm0 hI2 (fun e => absurd e (by decide)) (fun e => absurd e (by decide)) (by decide)
  have hIN2 := th_IN_up (b := a0) (x := (37, 0)) hIN (ini_f (r := 37) ho rfl rfl rfl (fun j x hm => by
    rcases List.mem_cons.mp hm with e | hm
    · cases e; exact ⟨by decide, rfl⟩
    cases hm) (fun j d hm => by
    rcases List.mem_cons.mp hm with e | hm
    · cases e; exact ⟨by decide, by rw [← of_b8]; rfl⟩
    cases hm))
  have gq : ∀ q, q < H0.size → q ≠ a0 → (th_up (th_up Γ b8 (38, a0)) a0 (37, 0)) q = Γ q := fun q h1 h2 => ((th_up_n h2).trans (th_up_n (by have q9 := lb8; omega)))
  refine th_vret hC hH hr hlocks hB.1.2.1 ⟨rfl, (th_up (th_up Γ b8 (38, a0)) a0 (37, 0)), ⟨⟨hI2, (by omega), fun q h1 h2 => ⟨(gq q h1 h2).trans (hB.1.2.2.2.1 q h1 h2), hB.1.2.2.1 q h1 h2⟩⟩, hR2, th_up_s, fun q w => hB.2.2.2 q (th_MR_up (show (38 : Nat) ≠ 12 by decide) (th_MR_up (show (37 : Nat) ≠ 12 by decide) w)), fun q x o hg hq hs => ?_⟩, hIN2, hs⟩ gX9_init_1.2
  by_cases e_a0 : q = a0
  · rw [e_a0, th_up_s] at hg; cases hg; decide
  rw [th_up_n e_a0] at hg
  by_cases e_b8 : q = b8
  · rw [e_b8, th_up_s] at hg; cases hg; decide
  rw [th_up_n e_b8] at hg
  exact (show ∀ x ∈ ([] : List Nat), x ∈ [37, 38] by decide) x (hN q x o hg hq hs)

set_option maxHeartbeats 4000000 in
set_option maxRecDepth 100000 in
theorem c_X10_init_i (l : Launch) (G : th_G) (Γ : th_Ga) (H0 : Heap) (hI : th_I G Γ H0) (hR : th_RC G Γ H0) (a0 : Nat) (ho : th_OB G Γ H0 a0 10 4 (fun j => defaultValue (tyX10 j))) (hsz : G.1.2.2 ≤ a0) (hlt : a0 < H0.size) (hm : ¬ th_MR G Γ H0 a0) (hz1 : H0.size = a0 + 1) : Met l yX10_init (.code yX10_init cX10_init 1 (none) :: th_tb) ({ frames := 1, cells := 2, slots := 496, locals := 12 } : Room) (th_P [.ref a0] G H0) (th_Q (fun (v : Option Value) (H1 : Heap) => v = none ∧ ∃ Γ1 : th_Ga, th_NY G Γ Γ1 a0 39 [39, 40, 41] H0 H1 ∧ th_IN G Γ1 a0 H0 H1 ∧ H1.size = H0.size + 2) G) 2 496 (fun q => G.1.2.2 ≤ q) := by
  refine th_met RX10 (by decide) rfl (Nat.le_of_ble_eq_true rfl) ?_
  intro p e s m below meth c hC hH hr hlocks hnm ls hl
  have hx := hC.1
  have hb := hC.2.1
  have hB : th_NR G Γ Γ a0 H0 H0 [] := ⟨⟨hI, va_S.rf, fun _ _ _ => rfl, fun _ _ _ => rfl, ho.1, hsz, hlt⟩, hR, hm, fun q w => Or.inl w⟩
  have hl : lv_has ls 1 [(0, .ref a0)] := hl
  have hs : H0.size ≤ H0.size := Nat.le_refl _
  have hN := th_new_0 (a0 := a0) hI ho.1
  have hIN := th_IN_0 (a0 := a0) hI ho.1
  refine lv_aload_n hx hb gX10_init_0.1 rfl (lv_at hl 0 rfl) ?_
  refine W.objInit hx hb hC.2.2.2.1 (hC.2.2.2.2.1 _ kw_111) (hC.2.2.2.2.1 _ kw_28) (hC.2.2.2.2.1 _ kw_29) rfl (hl.1.trans hC.2.2.1.symm) rfl gX10_init_0.2.1 (Nat.le_of_ble_eq_true rfl) (Nat.le_of_ble_eq_true rfl) ?_
  refine W.eq (g2 := F0 m 4 ls []) rfl ?_
  refine lv_aload_n hx hb gX10_init_0.2.2.1 rfl (lv_at hl 0 rfl) ?_
  refine lv_sipush (v := 400) hx hb gX10_init_0.2.2.2.1 (by decide) ?_
  refine tc_newa (ty := .int) (t := 0) hC hB.1 rfl rfl rfl kw_104 (N := 400) tk_400 (by decide) (Nat.le_of_ble_eq_true rfl) (Nat.le_of_ble_eq_true rfl) gX10_init_0.2.2.2.2.1 (fun b8 H8 eb8 zb8 oq8 hB1 k8 => ?_)
  have u8 := k8.2.1
  have of_b8 : b8 = a0 + 1 := by omega
  have n80 : ¬ th_MR G Γ H0 b8 := fun w => absurd (th_MR_lt hB.2.1 w) (by omega)
  have hB := th_NR_s hB hB1 u8 n80 (by omega) oq8
  have hIN := th_IN_s hIN u8 oq8
  have n8 : ¬ th_MR G Γ H8 b8 := fun w => n80 (th_MR_s u8 oq8 w)
  have lb8 : H0.size ≤ b8 := by omega
  have ho := tc_OBo ho oq8 (by omega)
  have hs : H8.size = H0.size + 1 := by omega
  refine tc_putF hC cf_X10 hB.1 ho (j := 0) (by decide) rfl hnm rfl rfl kf_X10_11 gX10_init_0.2.2.2.2.2.1 (fun H10 locs hB1 ho z10 oq10 => ?_)
  have hu := hB.1.2.2.2.2.1
  have hB := th_NR_s hB hB1 hu hB.2.2.1 (by omega) oq10
  have hIN := th_IN_s hIN hu oq10
  have k8x := tm_MAo k8 oq10 (of_n0 of_b8 (by decide))
  have n8x : ¬ th_MR G Γ H10 b8 := fun w => n8 (th_MR_s hu oq10 w)
  have hs : H10.size = H0.size + 1 := by omega
  refine lv_aload_n hx hb gX10_init_0.2.2.2.2.2.2.1 rfl (lv_at hl 0 rfl) ?_
  refine lv_bipush (v := 96) hx hb gX10_init_0.2.2.2.2.2.2.2 (by decide) ?_
  refine tc_newa (ty := .int) (t := 0) hC hB.1 rfl rfl rfl kw_104 (N := 96) tk_96 (by decide) (Nat.le_of_ble_eq_true rfl) (Nat.le_of_ble_eq_true rfl) gX10_init_1.1 (fun b16 H16 eb16 zb16 oq16 hB1 k16 => ?_)
  have u16 := k16.2.1
  have of_b16 : b16 = a0 + 2 := by omega
  have n160 : ¬ th_MR G Γ H10 b16 := fun w => absurd (th_MR_lt hB.2.1 w) (by omega)
  have hB := th_NR_s hB hB1 u16 n160 (by omega) oq16
  have hIN := th_IN_s hIN u16 oq16
  have n16 : ¬ th_MR G Γ H16 b16 := fun w => n160 (th_MR_s u16 oq16 w)
  have lb16 : H0.size ≤ b16 := by omega
  have ho := tc_OBo ho oq16 (by omega)
  have k8xx := tm_MAo k8x oq16 (of_ne of_b8 of_b16 (by decide))
  have n8xx : ¬ th_MR G Γ H16 b8 := fun w => n8x (th_MR_s u16 oq16 w)
  have hs : H16.size = H0.size + 2 := by omega
  refine tc_putF hC cf_X10 hB.1 ho (j := 1) (by decide) rfl hnm rfl rfl kf_X10_15 gX10_init_1.2.1 (fun H18 locs hB1 ho z18 oq18 => ?_)
  have hu := hB.1.2.2.2.2.1
  have hB := th_NR_s hB hB1 hu hB.2.2.1 (by omega) oq18
  have hIN := th_IN_s hIN hu oq18
  have k8xxx := tm_MAo k8xx oq18 (of_n0 of_b8 (by decide))
  have n8xxx : ¬ th_MR G Γ H18 b8 := fun w => n8xx (th_MR_s hu oq18 w)
  have k16x := tm_MAo k16 oq18 (of_n0 of_b16 (by decide))
  have n16x : ¬ th_MR G Γ H18 b16 := fun w => n16 (th_MR_s hu oq18 w)
  have hs : H18.size = H0.size + 2 := by omega
  refine lv_aload_n hx hb gX10_init_1.2.2.1 rfl (lv_at hl 0 rfl) ?_
  refine lv_iconst (v := 0) hx hb gX10_init_1.2.2.2.1 (by decide) ?_
  refine tc_put hC cf_X10 hB.1 ho (j := 2) (by decide) rfl rfl rfl kf_X10_18 gX10_init_1.2.2.2.2.1 (fun H23 locs hB1 ho z23 oq23 => ?_)
  have hu := hB.1.2.2.2.2.1
  have hB := th_NR_s hB hB1 hu hB.2.2.1 (by omega) oq23
  have hIN := th_IN_s hIN hu oq23
  have k8xxxx := tm_MAo k8xxx oq23 (of_n0 of_b8 (by decide))
  have n8xxxx : ¬ th_MR G Γ H23 b8 := fun w => n8xxx (th_MR_s hu oq23 w)
  have k16xx := tm_MAo k16x oq23 (of_n0 of_b16 (by decide))
  have n16xx : ¬ th_MR G Γ H23 b16 := fun w => n16x (th_MR_s hu oq23 w)
  have hs : H23.size = H0.size + 2 := by omega
  refine lv_aload_n hx hb gX10_init_1.2.2.2.2.2.1 rfl (lv_at hl 0 rfl) ?_
  refine lv_iconst (v := 0) hx hb gX10_init_1.2.2.2.2.2.2.1 (by decide) ?_
  refine tc_put hC cf_X10 hB.1 ho (j := 3) (by decide) rfl rfl rfl kf_X10_22 gX10_init_1.2.2.2.2.2.2.2 (fun H28 locs hB1 ho z28 oq28 => ?_)
  have hu := hB.1.2.2.2.2.1
  have hB := th_NR_s hB hB1 hu hB.2.2.1 (by omega) oq28
  have hIN := th_IN_s hIN hu oq28
  have k8xxxxx := tm_MAo k8xxxx oq28 (of_n0 of_b8 (by decide))
  have n8xxxxx : ¬ th_MR G Γ H28 b8 := fun w => n8xxxx (th_MR_s hu oq28 w)
  have k16xxx := tm_MAo k16xx oq28 (of_n0 of_b16 (by decide))
  have n16xxx : ¬ th_MR G Γ H28 b16 := fun w => n16xx (th_MR_s hu oq28 w)
  have hs : H28.size = H0.size + 2 := by omega
  have hI1 := hB.1.1
  have hR1 := hB.2.1
  have hI2 := th_nmA (r := 40) (o := a0) hI1 k8xxxxx ro_40 (Nat.le_refl _) (Nat.le_refl _) (fun i _ => th_sI (x := 0) (by decide) (by decide))
  have hR1 := th_RC_up hI1 hR1 (x := (40, a0)) k8xxxxx.2.1 n8xxxxx hI2 (fun e => absurd (show (40 : Nat) = 3 from e) (by decide)) (fun e => absurd (show (40 : Nat) = 18 ∨ (40 : Nat) = 19 from e) (by decide)) (show (40 : Nat) ≠ 12 by decide)
  have hI1 := hI2
  have hIN := th_IN_up (b := b8) (x := (40, a0)) hIN (ini_r rfl rfl rfl rfl (fun i hi => th_sl_at k8xxxxx.2.2 (arrV_read _ _ hi)))
  have ho := th_OB_up (b := b8) (x := (40, a0)) ho (by have q9 := lb8; omega)
  have k16xxxu := th_MA_up (b := b8) (x := (40, a0)) k16xxx (fun e => (of_ne of_b8 of_b16 (by decide)) e.symm)
  have n16xxxu : ¬ th_MR G (th_up Γ b8 (40, a0)) H28 b16 := fun w => n16xxx (th_MR_up (show (40 : Nat) ≠ 12 by decide) w)
  have hI2 := th_nmA (r := 41) (o := a0) hI1 k16xxxu ro_41 (Nat.le_refl _) (Nat.le_refl _) (fun i _ => th_esm_st (Or.inr (by decide)))
  have hR1 := th_RC_up hI1 hR1 (x := (41, a0)) k16xxxu.2.1 n16xxxu hI2 (fun e => absurd (show (41 : Nat) = 3 from e) (by decide)) (fun e => absurd (show (41 : Nat) = 18 ∨ (41 : Nat) = 19 from e) (by decide)) (show (41 : Nat) ≠ 12 by decide)
  have hI1 := hI2
  have hIN := th_IN_up (b := b16) (x := (41, a0)) hIN (ini_r rfl rfl rfl rfl (fun i hi => th_sl_at k16xxx.2.2 (arrV_read _ _ hi)))
  have ho := th_OB_up (b := b16) (x := (41, a0)) ho (by have q9 := lb16; omega)
  have g_b8 : (th_up (th_up Γ b8 (40, a0)) b16 (41, a0)) b8 = (40, a0) := (th_up_n ((of_ne of_b8 of_b16 (by decide)))).trans (th_up_s)
  have g_b16 : (th_up (th_up Γ b8 (40, a0)) b16 (41, a0)) b16 = (41, a0) := th_up_s
  have nm0 : ¬ th_MR G (th_up (th_up Γ b8 (40, a0)) b16 (41, a0)) H28 a0 := fun w => hB.2.2.1 (th_MR_up (show (40 : Nat) ≠ 12 by decide) (th_MR_up (show (41 : Nat) ≠ 12 by decide) w))
  have hI2 := th_nmO (r := 39) hI1 ho hsz ro_39 rfl (fun j q hq => by
    match j, hq with
    | 0, hq => have e9 := Option.some.inj hq; subst e9; exact th_sO g_b8
    | 1, hq => have e9 := Option.some.inj hq; subst e9; exact th_sO g_b16
    | 2, hq => have e9 := Option.some.inj hq; subst e9; exact th_sI (x := 0) (by decide) (by decide)
    | 3, hq => have e9 := Option.some.inj hq; subst e9; exact th_sI (x := 0) (by decide) (by decide)
    | n + 4, hq => exact absurd (List.getElem?_eq_some_iff.mp hq).1 (by simp))
  have hR2 := th_RC_up hI1 hR1 (x := (39, 0)) ho.1 nm0 hI2 (fun e => absurd e (by decide)) (fun e => absurd e (by decide)) (by decide)
  have hIN2 := th_IN_up (b := a0) (x := (39, 0)) hIN (ini_f (r := 39) ho rfl rfl rfl (fun j x hm => by
    rcases List.mem_cons.mp hm with e | hm
    · cases e; exact ⟨by decide, rfl⟩
    rcases List.mem_cons.mp hm with e | hm
    · cases e; exact ⟨by decide, rfl⟩
    cases hm) (fun j d hm => by
    rcases List.mem_cons.mp hm with e | hm
    · cases e; exact ⟨by decide, by rw [← of_b8]; rfl⟩
    rcases List.mem_cons.mp hm with e | hm
    · cases e; exact ⟨by decide, by rw [← of_b16]; rfl⟩
    cases hm))
  have gq : ∀ q, q < H0.size → q ≠ a0 → (th_up (th_up (th_up Γ b8 (40, a0)) b16 (41, a0)) a0 (39, 0)) q = Γ q := fun q h1 h2 => (((th_up_n h2).trans (th_up_n (by have q9 := lb16; omega))).trans (th_up_n (by have q9 := lb8; omega)))
  refine th_vret hC hH hr hlocks hB.1.2.1 ⟨rfl, (th_up (th_up (th_up Γ b8 (40, a0)) b16 (41, a0)) a0 (39, 0)), ⟨⟨hI2, (by omega), fun q h1 h2 => ⟨(gq q h1 h2).trans (hB.1.2.2.2.1 q h1 h2), hB.1.2.2.1 q h1 h2⟩⟩, hR2, th_up_s, fun q w => hB.2.2.2 q (th_MR_up (show (40 : Nat) ≠ 12 by decide) (th_MR_up (show (41 : Nat) ≠ 12 by decide) (th_MR_up (show (39 : Nat) ≠ 12 by decide) w))), fun q x o hg hq hs => ?_⟩, hIN2, hs⟩ gX10_init_2
  by_cases e_a0 : q = a0
  · rw [e_a0, th_up_s] at hg; cases hg; decide
  rw [th_up_n e_a0] at hg
  by_cases e_b16 : q = b16
  · rw [e_b16, th_up_s] at hg; cases hg; decide
  rw [th_up_n e_b16] at hg
  by_cases e_b8 : q = b8
  · rw [e_b8, th_up_s] at hg; cases hg; decide
  rw [th_up_n e_b8] at hg
  exact (show ∀ x ∈ ([] : List Nat), x ∈ [39, 40, 41] by decide) x (hN q x o hg hq hs)

set_option maxHeartbeats 4000000 in
set_option maxRecDepth 100000 in
theorem c_X1_init_i (l : Launch) (G : th_G) (Γ : th_Ga) (H0 : Heap) (hI : th_I G Γ H0) (hR : th_RC G Γ H0) (a0 : Nat) (ho : th_OB G Γ H0 a0 1 11 (fun j => defaultValue (tyX1 j))) (hsz : G.1.2.2 ≤ a0) (hlt : a0 < H0.size) (hm : ¬ th_MR G Γ H0 a0) (hz1 : H0.size = a0 + 1) : Met l yX1_init (.code yX1_init cX1_init 1 (none) :: th_tb) ({ frames := 1, cells := 7, slots := 60, locals := 12 } : Room) (th_P [.ref a0] G H0) (th_Q (fun (v : Option Value) (H1 : Heap) => v = none ∧ ∃ Γ1 : th_Ga, th_NY G Γ Γ1 a0 3 [3, 4, 5, 6, 7, 8, 9, 10] H0 H1 ∧ th_IN G Γ1 a0 H0 H1 ∧ H1.size = H0.size + 7) G) 7 60 (fun q => G.1.2.2 ≤ q) := by
  refine th_met RX1 (by decide) rfl (Nat.le_of_ble_eq_true rfl) ?_
  intro p e s m below meth c hC hH hr hlocks hnm ls hl
  have hx := hC.1
  have hb := hC.2.1
  have hB : th_NR G Γ Γ a0 H0 H0 [] := ⟨⟨hI, va_S.rf, fun _ _ _ => rfl, fun _ _ _ => rfl, ho.1, hsz, hlt⟩, hR, hm, fun q w => Or.inl w⟩
  have hl : lv_has ls 1 [(0, .ref a0)] := hl
  have hs : H0.size ≤ H0.size := Nat.le_refl _
  have hN := th_new_0 (a0 := a0) hI ho.1
  have hIN := th_IN_0 (a0 := a0) hI ho.1
  refine lv_aload_n hx hb gX1_init_0.1 rfl (lv_at hl 0 rfl) ?_
  refine W.objInit hx hb hC.2.2.2.1 (hC.2.2.2.2.1 _ kw_41) (hC.2.2.2.2.1 _ kw_28) (hC.2.2.2.2.1 _ kw_29) rfl (hl.1.trans hC.2.2.1.symm) rfl gX1_init_0.2.1 (Nat.le_of_ble_eq_true rfl) (Nat.le_of_ble_eq_true rfl) ?_
  refine W.eq (g2 := F0 m 4 ls []) rfl ?_
  refine lv_aload_n hx hb gX1_init_0.2.2.1 rfl (lv_at hl 0 rfl) ?_
  refine lv_bipush (v := 9) hx hb gX1_init_0.2.2.2.1 (by decide) ?_
  refine tc_newa (ty := .int) (t := 0) hC hB.1 rfl rfl rfl kw_104 (N := 9) tk_9 (by decide) (Nat.le_of_ble_eq_true rfl) (Nat.le_of_ble_eq_true rfl) gX1_init_0.2.2.2.2.1 (fun b7 H7 eb7 zb7 oq7 hB1 k7 => ?_)
  have u7 := k7.2.1
  have of_b7 : b7 = a0 + 1 := by omega
  have n70 : ¬ th_MR G Γ H0 b7 := fun w => absurd (th_MR_lt hB.2.1 w) (by omega)
  have hB := th_NR_s hB hB1 u7 n70 (by omega) oq7
  have hIN := th_IN_s hIN u7 oq7
  have n7 : ¬ th_MR G Γ H7 b7 := fun w => n70 (th_MR_s u7 oq7 w)
  have lb7 : H0.size ≤ b7 := by omega
  have ho := tc_OBo ho oq7 (by omega)
  have hs : H7.size = H0.size + 1 := by omega
  refine tc_putF hC cf_X1 hB.1 ho (j := 0) (by decide) rfl hnm rfl rfl kf_X1_9 gX1_init_0.2.2.2.2.2.1 (fun H9 locs hB1 ho z9 oq9 => ?_)
  have hu := hB.1.2.2.2.2.1
  have hB := th_NR_s hB hB1 hu hB.2.2.1 (by omega) oq9
  have hIN := th_IN_s hIN hu oq9
  have k7x := tm_MAo k7 oq9 (of_n0 of_b7 (by decide))
  have n7x : ¬ th_MR G Γ H9 b7 := fun w => n7 (th_MR_s hu oq9 w)
  have hs : H9.size = H0.size + 1 := by omega
  refine lv_aload_n hx hb gX1_init_0.2.2.2.2.2.2.1 rfl (lv_at hl 0 rfl) ?_
  refine lv_bipush (v := 9) hx hb gX1_init_0.2.2.2.2.2.2.2 (by decide) ?_
  refine tc_newa (ty := .int) (t := 0) hC hB.1 rfl rfl rfl kw_104 (N := 9) tk_9 (by decide) (Nat.le_of_ble_eq_true rfl) (Nat.le_of_ble_eq_true rfl) gX1_init_1.1 (fun b15 H15 eb15 zb15 oq15 hB1 k15 => ?_)
  have u15 := k15.2.1
  have of_b15 : b15 = a0 + 2 := by omega
  have n150 : ¬ th_MR G Γ H9 b15 := fun w => absurd (th_MR_lt hB.2.1 w) (by omega)
  have hB := th_NR_s hB hB1 u15 n150 (by omega) oq15
  have hIN := th_IN_s hIN u15 oq15
  have n15 : ¬ th_MR G Γ H15 b15 := fun w => n150 (th_MR_s u15 oq15 w)
  have lb15 : H0.size ≤ b15 := by omega
  have ho := tc_OBo ho oq15 (by omega)
  have k7xx := tm_MAo k7x oq15 (of_ne of_b7 of_b15 (by decide))
  have n7xx : ¬ th_MR G Γ H15 b7 := fun w => n7x (th_MR_s u15 oq15 w)
  have hs : H15.size = H0.size + 2 := by omega
  refine tc_putF hC cf_X1 hB.1 ho (j := 1) (by decide) rfl hnm rfl rfl kf_X1_15 gX1_init_1.2.1 (fun H17 locs hB1 ho z17 oq17 => ?_)
  have hu := hB.1.2.2.2.2.1
  have hB := th_NR_s hB hB1 hu hB.2.2.1 (by omega) oq17
  have hIN := th_IN_s hIN hu oq17
  have k7xxx := tm_MAo k7xx oq17 (of_n0 of_b7 (by decide))
  have n7xxx : ¬ th_MR G Γ H17 b7 := fun w => n7xx (th_MR_s hu oq17 w)
  have k15x := tm_MAo k15 oq17 (of_n0 of_b15 (by decide))
  have n15x : ¬ th_MR G Γ H17 b15 := fun w => n15 (th_MR_s hu oq17 w)
  have hs : H17.size = H0.size + 2 := by omega
  refine lv_aload_n hx hb gX1_init_1.2.2.1 rfl (lv_at hl 0 rfl) ?_
  refine lv_bipush (v := 9) hx hb gX1_init_1.2.2.2.1 (by decide) ?_
  refine tc_newa (ty := .int) (t := 0) hC hB.1 rfl rfl rfl kw_104 (N := 9) tk_9 (by decide) (Nat.le_of_ble_eq_true rfl) (Nat.le_of_ble_eq_true rfl) gX1_init_1.2.2.2.2.1 (fun b23 H23 eb23 zb23 oq23 hB1 k23 => ?_)
  have u23 := k23.2.1
  have of_b23 : b23 = a0 + 3 := by omega
  have n230 : ¬ th_MR G Γ H17 b23 := fun w => absurd (th_MR_lt hB.2.1 w) (by omega)
  have hB := th_NR_s hB hB1 u23 n230 (by omega) oq23
  have hIN := th_IN_s hIN u23 oq23
  have n23 : ¬ th_MR G Γ H23 b23 := fun w => n230 (th_MR_s u23 oq23 w)
  have lb23 : H0.size ≤ b23 := by omega
  have ho := tc_OBo ho oq23 (by omega)
  have k7xxxx := tm_MAo k7xxx oq23 (of_ne of_b7 of_b23 (by decide))
  have n7xxxx : ¬ th_MR G Γ H23 b7 := fun w => n7xxx (th_MR_s u23 oq23 w)
  have k15xx := tm_MAo k15x oq23 (of_ne of_b15 of_b23 (by decide))
  have n15xx : ¬ th_MR G Γ H23 b15 := fun w => n15x (th_MR_s u23 oq23 w)
  have hs : H23.size = H0.size + 3 := by omega
  refine tc_putF hC cf_X1 hB.1 ho (j := 2) (by decide) rfl hnm rfl rfl kf_X1_18 gX1_init_1.2.2.2.2.2.1 (fun H25 locs hB1 ho z25 oq25 => ?_)
  have hu := hB.1.2.2.2.2.1
  have hB := th_NR_s hB hB1 hu hB.2.2.1 (by omega) oq25
  have hIN := th_IN_s hIN hu oq25
  have k7xxxxx := tm_MAo k7xxxx oq25 (of_n0 of_b7 (by decide))
  have n7xxxxx : ¬ th_MR G Γ H25 b7 := fun w => n7xxxx (th_MR_s hu oq25 w)
  have k15xxx := tm_MAo k15xx oq25 (of_n0 of_b15 (by decide))
  have n15xxx : ¬ th_MR G Γ H25 b15 := fun w => n15xx (th_MR_s hu oq25 w)
  have k23x := tm_MAo k23 oq25 (of_n0 of_b23 (by decide))
  have n23x : ¬ th_MR G Γ H25 b23 := fun w => n23 (th_MR_s hu oq25 w)
  have hs : H25.size = H0.size + 3 := by omega
  refine lv_aload_n hx hb gX1_init_1.2.2.2.2.2.2.1 rfl (lv_at hl 0 rfl) ?_
  refine lv_bipush (v := 9) hx hb gX1_init_1.2.2.2.2.2.2.2 (by decide) ?_
  refine tc_newa (ty := .int) (t := 0) hC hB.1 rfl rfl rfl kw_104 (N := 9) tk_9 (by decide) (Nat.le_of_ble_eq_true rfl) (Nat.le_of_ble_eq_true rfl) gX1_init_2.1 (fun b31 H31 eb31 zb31 oq31 hB1 k31 => ?_)
  have u31 := k31.2.1
  have of_b31 : b31 = a0 + 4 := by omega
  have n310 : ¬ th_MR G Γ H25 b31 := fun w => absurd (th_MR_lt hB.2.1 w) (by omega)
  have hB := th_NR_s hB hB1 u31 n310 (by omega) oq31
  have hIN := th_IN_s hIN u31 oq31
  have n31 : ¬ th_MR G Γ H31 b31 := fun w => n310 (th_MR_s u31 oq31 w)
  have lb31 : H0.size ≤ b31 := by omega
  have ho := tc_OBo ho oq31 (by omega)
  have k7xxxxxx := tm_MAo k7xxxxx oq31 (of_ne of_b7 of_b31 (by decide))
  have n7xxxxxx : ¬ th_MR G Γ H31 b7 := fun w => n7xxxxx (th_MR_s u31 oq31 w)
  have k15xxxx := tm_MAo k15xxx oq31 (of_ne of_b15 of_b31 (by decide))
  have n15xxxx : ¬ th_MR G Γ H31 b15 := fun w => n15xxx (th_MR_s u31 oq31 w)
  have k23xx := tm_MAo k23x oq31 (of_ne of_b23 of_b31 (by decide))
  have n23xx : ¬ th_MR G Γ H31 b23 := fun w => n23x (th_MR_s u31 oq31 w)
  have hs : H31.size = H0.size + 4 := by omega
  refine tc_putF hC cf_X1 hB.1 ho (j := 3) (by decide) rfl hnm rfl rfl kf_X1_21 gX1_init_2.2.1 (fun H33 locs hB1 ho z33 oq33 => ?_)
  have hu := hB.1.2.2.2.2.1
  have hB := th_NR_s hB hB1 hu hB.2.2.1 (by omega) oq33
  have hIN := th_IN_s hIN hu oq33
  have k7xxxxxxx := tm_MAo k7xxxxxx oq33 (of_n0 of_b7 (by decide))
  have n7xxxxxxx : ¬ th_MR G Γ H33 b7 := fun w => n7xxxxxx (th_MR_s hu oq33 w)
  have k15xxxxx := tm_MAo k15xxxx oq33 (of_n0 of_b15 (by decide))
  have n15xxxxx : ¬ th_MR G Γ H33 b15 := fun w => n15xxxx (th_MR_s hu oq33 w)
  have k23xxx := tm_MAo k23xx oq33 (of_n0 of_b23 (by decide))
  have n23xxx : ¬ th_MR G Γ H33 b23 := fun w => n23xx (th_MR_s hu oq33 w)
  have k31x := tm_MAo k31 oq33 (of_n0 of_b31 (by decide))
  have n31x : ¬ th_MR G Γ H33 b31 := fun w => n31 (th_MR_s hu oq33 w)
  have hs : H33.size = H0.size + 4 := by omega
  refine lv_aload_n hx hb gX1_init_2.2.2.1 rfl (lv_at hl 0 rfl) ?_
  refine lv_bipush (v := 9) hx hb gX1_init_2.2.2.2.1 (by decide) ?_
  refine tc_newa (ty := .int) (t := 0) hC hB.1 rfl rfl rfl kw_104 (N := 9) tk_9 (by decide) (Nat.le_of_ble_eq_true rfl) (Nat.le_of_ble_eq_true rfl) gX1_init_2.2.2.2.2.1 (fun b39 H39 eb39 zb39 oq39 hB1 k39 => ?_)
  have u39 := k39.2.1
  have of_b39 : b39 = a0 + 5 := by omega
  have n390 : ¬ th_MR G Γ H33 b39 := fun w => absurd (th_MR_lt hB.2.1 w) (by omega)
  have hB := th_NR_s hB hB1 u39 n390 (by omega) oq39
  have hIN := th_IN_s hIN u39 oq39
  have n39 : ¬ th_MR G Γ H39 b39 := fun w => n390 (th_MR_s u39 oq39 w)
  have lb39 : H0.size ≤ b39 := by omega
  have ho := tc_OBo ho oq39 (by omega)
  have k7xxxxxxxx := tm_MAo k7xxxxxxx oq39 (of_ne of_b7 of_b39 (by decide))
  have n7xxxxxxxx : ¬ th_MR G Γ H39 b7 := fun w => n7xxxxxxx (th_MR_s u39 oq39 w)
  have k15xxxxxx := tm_MAo k15xxxxx oq39 (of_ne of_b15 of_b39 (by decide))
  have n15xxxxxx : ¬ th_MR G Γ H39 b15 := fun w => n15xxxxx (th_MR_s u39 oq39 w)
  have k23xxxx := tm_MAo k23xxx oq39 (of_ne of_b23 of_b39 (by decide))
  have n23xxxx : ¬ th_MR G Γ H39 b23 := fun w => n23xxx (th_MR_s u39 oq39 w)
  have k31xx := tm_MAo k31x oq39 (of_ne of_b31 of_b39 (by decide))
  have n31xx : ¬ th_MR G Γ H39 b31 := fun w => n31x (th_MR_s u39 oq39 w)
  have hs : H39.size = H0.size + 5 := by omega
  refine tc_putF hC cf_X1 hB.1 ho (j := 4) (by decide) rfl hnm rfl rfl kf_X1_24 gX1_init_2.2.2.2.2.2.1 (fun H41 locs hB1 ho z41 oq41 => ?_)
  have hu := hB.1.2.2.2.2.1
  have hB := th_NR_s hB hB1 hu hB.2.2.1 (by omega) oq41
  have hIN := th_IN_s hIN hu oq41
  have k7xxxxxxxxx := tm_MAo k7xxxxxxxx oq41 (of_n0 of_b7 (by decide))
  have n7xxxxxxxxx : ¬ th_MR G Γ H41 b7 := fun w => n7xxxxxxxx (th_MR_s hu oq41 w)
  have k15xxxxxxx := tm_MAo k15xxxxxx oq41 (of_n0 of_b15 (by decide))
  have n15xxxxxxx : ¬ th_MR G Γ H41 b15 := fun w => n15xxxxxx (th_MR_s hu oq41 w)
  have k23xxxxx := tm_MAo k23xxxx oq41 (of_n0 of_b23 (by decide))
  have n23xxxxx : ¬ th_MR G Γ H41 b23 := fun w => n23xxxx (th_MR_s hu oq41 w)
  have k31xxx := tm_MAo k31xx oq41 (of_n0 of_b31 (by decide))
  have n31xxx : ¬ th_MR G Γ H41 b31 := fun w => n31xx (th_MR_s hu oq41 w)
  have k39x := tm_MAo k39 oq41 (of_n0 of_b39 (by decide))
  have n39x : ¬ th_MR G Γ H41 b39 := fun w => n39 (th_MR_s hu oq41 w)
  have hs : H41.size = H0.size + 5 := by omega
  refine lv_aload_n hx hb gX1_init_2.2.2.2.2.2.2.1 rfl (lv_at hl 0 rfl) ?_
  refine lv_iconst (v := 3) hx hb gX1_init_2.2.2.2.2.2.2.2 (by decide) ?_
  refine tc_newa (ty := .int) (t := 0) hC hB.1 rfl rfl rfl kw_104 (N := 3) tk_3 (by decide) (Nat.le_of_ble_eq_true rfl) (Nat.le_of_ble_eq_true rfl) gX1_init_3.1 (fun b46 H46 eb46 zb46 oq46 hB1 k46 => ?_)
  have u46 := k46.2.1
  have of_b46 : b46 = a0 + 6 := by omega
  have n460 : ¬ th_MR G Γ H41 b46 := fun w => absurd (th_MR_lt hB.2.1 w) (by omega)
  have hB := th_NR_s hB hB1 u46 n460 (by omega) oq46
  have hIN := th_IN_s hIN u46 oq46
  have n46 : ¬ th_MR G Γ H46 b46 := fun w => n460 (th_MR_s u46 oq46 w)
  have lb46 : H0.size ≤ b46 := by omega
  have ho := tc_OBo ho oq46 (by omega)
  have k7xxxxxxxxxx := tm_MAo k7xxxxxxxxx oq46 (of_ne of_b7 of_b46 (by decide))
  have n7xxxxxxxxxx : ¬ th_MR G Γ H46 b7 := fun w => n7xxxxxxxxx (th_MR_s u46 oq46 w)
  have k15xxxxxxxx := tm_MAo k15xxxxxxx oq46 (of_ne of_b15 of_b46 (by decide))
  have n15xxxxxxxx : ¬ th_MR G Γ H46 b15 := fun w => n15xxxxxxx (th_MR_s u46 oq46 w)
  have k23xxxxxx := tm_MAo k23xxxxx oq46 (of_ne of_b23 of_b46 (by decide))
  have n23xxxxxx : ¬ th_MR G Γ H46 b23 := fun w => n23xxxxx (th_MR_s u46 oq46 w)
  have k31xxxx := tm_MAo k31xxx oq46 (of_ne of_b31 of_b46 (by decide))
  have n31xxxx : ¬ th_MR G Γ H46 b31 := fun w => n31xxx (th_MR_s u46 oq46 w)
  have k39xx := tm_MAo k39x oq46 (of_ne of_b39 of_b46 (by decide))
  have n39xx : ¬ th_MR G Γ H46 b39 := fun w => n39x (th_MR_s u46 oq46 w)
  have hs : H46.size = H0.size + 6 := by omega
  refine tc_putF hC cf_X1 hB.1 ho (j := 5) (by decide) rfl hnm rfl rfl kf_X1_27 gX1_init_3.2.1 (fun H48 locs hB1 ho z48 oq48 => ?_)
  have hu := hB.1.2.2.2.2.1
  have hB := th_NR_s hB hB1 hu hB.2.2.1 (by omega) oq48
  have hIN := th_IN_s hIN hu oq48
  have k7xxxxxxxxxxx := tm_MAo k7xxxxxxxxxx oq48 (of_n0 of_b7 (by decide))
  have n7xxxxxxxxxxx : ¬ th_MR G Γ H48 b7 := fun w => n7xxxxxxxxxx (th_MR_s hu oq48 w)
  have k15xxxxxxxxx := tm_MAo k15xxxxxxxx oq48 (of_n0 of_b15 (by decide))
  have n15xxxxxxxxx : ¬ th_MR G Γ H48 b15 := fun w => n15xxxxxxxx (th_MR_s hu oq48 w)
  have k23xxxxxxx := tm_MAo k23xxxxxx oq48 (of_n0 of_b23 (by decide))
  have n23xxxxxxx : ¬ th_MR G Γ H48 b23 := fun w => n23xxxxxx (th_MR_s hu oq48 w)
  have k31xxxxx := tm_MAo k31xxxx oq48 (of_n0 of_b31 (by decide))
  have n31xxxxx : ¬ th_MR G Γ H48 b31 := fun w => n31xxxx (th_MR_s hu oq48 w)
  have k39xxx := tm_MAo k39xx oq48 (of_n0 of_b39 (by decide))
  have n39xxx : ¬ th_MR G Γ H48 b39 := fun w => n39xx (th_MR_s hu oq48 w)
  have k46x := tm_MAo k46 oq48 (of_n0 of_b46 (by decide))
  have n46x : ¬ th_MR G Γ H48 b46 := fun w => n46 (th_MR_s hu oq48 w)
  have hs : H48.size = H0.size + 6 := by omega
  refine lv_aload_n hx hb gX1_init_3.2.2.1 rfl (lv_at hl 0 rfl) ?_
  refine lv_bipush (v := 12) hx hb gX1_init_3.2.2.2.1 (by decide) ?_
  refine tc_newa (ty := .int) (t := 0) hC hB.1 rfl rfl rfl kw_104 (N := 12) tk_12 (by decide) (Nat.le_of_ble_eq_true rfl) (Nat.le_of_ble_eq_true rfl) gX1_init_3.2.2.2.2.1 (fun b54 H54 eb54 zb54 oq54 hB1 k54 => ?_)
  have u54 := k54.2.1
  have of_b54 : b54 = a0 + 7 := by omega
  have n540 : ¬ th_MR G Γ H48 b54 := fun w => absurd (th_MR_lt hB.2.1 w) (by omega)
  have hB := th_NR_s hB hB1 u54 n540 (by omega) oq54
  have hIN := th_IN_s hIN u54 oq54
  have n54 : ¬ th_MR G Γ H54 b54 := fun w => n540 (th_MR_s u54 oq54 w)
  have lb54 : H0.size ≤ b54 := by omega
  have ho := tc_OBo ho oq54 (by omega)
  have k7xxxxxxxxxxxx := tm_MAo k7xxxxxxxxxxx oq54 (of_ne of_b7 of_b54 (by decide))
  have n7xxxxxxxxxxxx : ¬ th_MR G Γ H54 b7 := fun w => n7xxxxxxxxxxx (th_MR_s u54 oq54 w)
  have k15xxxxxxxxxx := tm_MAo k15xxxxxxxxx oq54 (of_ne of_b15 of_b54 (by decide))
  have n15xxxxxxxxxx : ¬ th_MR G Γ H54 b15 := fun w => n15xxxxxxxxx (th_MR_s u54 oq54 w)
  have k23xxxxxxxx := tm_MAo k23xxxxxxx oq54 (of_ne of_b23 of_b54 (by decide))
  have n23xxxxxxxx : ¬ th_MR G Γ H54 b23 := fun w => n23xxxxxxx (th_MR_s u54 oq54 w)
  have k31xxxxxx := tm_MAo k31xxxxx oq54 (of_ne of_b31 of_b54 (by decide))
  have n31xxxxxx : ¬ th_MR G Γ H54 b31 := fun w => n31xxxxx (th_MR_s u54 oq54 w)
  have k39xxxx := tm_MAo k39xxx oq54 (of_ne of_b39 of_b54 (by decide))
  have n39xxxx : ¬ th_MR G Γ H54 b39 := fun w => n39xxx (th_MR_s u54 oq54 w)
  have k46xx := tm_MAo k46x oq54 (of_ne of_b46 of_b54 (by decide))
  have n46xx : ¬ th_MR G Γ H54 b46 := fun w => n46x (th_MR_s u54 oq54 w)
  have hs : H54.size = H0.size + 7 := by omega
  refine tc_putF hC cf_X1 hB.1 ho (j := 6) (by decide) rfl hnm rfl rfl kf_X1_30 gX1_init_3.2.2.2.2.2.1 (fun H56 locs hB1 ho z56 oq56 => ?_)
  have hu := hB.1.2.2.2.2.1
  have hB := th_NR_s hB hB1 hu hB.2.2.1 (by omega) oq56
  have hIN := th_IN_s hIN hu oq56
  have k7xxxxxxxxxxxxx := tm_MAo k7xxxxxxxxxxxx oq56 (of_n0 of_b7 (by decide))
  have n7xxxxxxxxxxxxx : ¬ th_MR G Γ H56 b7 := fun w => n7xxxxxxxxxxxx (th_MR_s hu oq56 w)
  have k15xxxxxxxxxxx := tm_MAo k15xxxxxxxxxx oq56 (of_n0 of_b15 (by decide))
  have n15xxxxxxxxxxx : ¬ th_MR G Γ H56 b15 := fun w => n15xxxxxxxxxx (th_MR_s hu oq56 w)
  have k23xxxxxxxxx := tm_MAo k23xxxxxxxx oq56 (of_n0 of_b23 (by decide))
  have n23xxxxxxxxx : ¬ th_MR G Γ H56 b23 := fun w => n23xxxxxxxx (th_MR_s hu oq56 w)
  have k31xxxxxxx := tm_MAo k31xxxxxx oq56 (of_n0 of_b31 (by decide))
  have n31xxxxxxx : ¬ th_MR G Γ H56 b31 := fun w => n31xxxxxx (th_MR_s hu oq56 w)
  have k39xxxxx := tm_MAo k39xxxx oq56 (of_n0 of_b39 (by decide))
  have n39xxxxx : ¬ th_MR G Γ H56 b39 := fun w => n39xxxx (th_MR_s hu oq56 w)
  have k46xxx := tm_MAo k46xx oq56 (of_n0 of_b46 (by decide))
  have n46xxx : ¬ th_MR G Γ H56 b46 := fun w => n46xx (th_MR_s hu oq56 w)
  have k54x := tm_MAo k54 oq56 (of_n0 of_b54 (by decide))
  have n54x : ¬ th_MR G Γ H56 b54 := fun w => n54 (th_MR_s hu oq56 w)
  have hs : H56.size = H0.size + 7 := by omega
  refine lv_aload_n hx hb gX1_init_3.2.2.2.2.2.2.1 rfl (lv_at hl 0 rfl) ?_
  refine lv_iconst (v := 0) hx hb gX1_init_3.2.2.2.2.2.2.2 (by decide) ?_
  refine tc_put hC cf_X1 hB.1 ho (j := 7) (by decide) rfl rfl rfl kf_X1_33 gX1_init_4.1 (fun H61 locs hB1 ho z61 oq61 => ?_)
  have hu := hB.1.2.2.2.2.1
  have hB := th_NR_s hB hB1 hu hB.2.2.1 (by omega) oq61
  have hIN := th_IN_s hIN hu oq61
  have k7xxxxxxxxxxxxxx := tm_MAo k7xxxxxxxxxxxxx oq61 (of_n0 of_b7 (by decide))
  have n7xxxxxxxxxxxxxx : ¬ th_MR G Γ H61 b7 := fun w => n7xxxxxxxxxxxxx (th_MR_s hu oq61 w)
  have k15xxxxxxxxxxxx := tm_MAo k15xxxxxxxxxxx oq61 (of_n0 of_b15 (by decide))
  have n15xxxxxxxxxxxx : ¬ th_MR G Γ H61 b15 := fun w => n15xxxxxxxxxxx (th_MR_s hu oq61 w)
  have k23xxxxxxxxxx := tm_MAo k23xxxxxxxxx oq61 (of_n0 of_b23 (by decide))
  have n23xxxxxxxxxx : ¬ th_MR G Γ H61 b23 := fun w => n23xxxxxxxxx (th_MR_s hu oq61 w)
  have k31xxxxxxxx := tm_MAo k31xxxxxxx oq61 (of_n0 of_b31 (by decide))
  have n31xxxxxxxx : ¬ th_MR G Γ H61 b31 := fun w => n31xxxxxxx (th_MR_s hu oq61 w)
  have k39xxxxxx := tm_MAo k39xxxxx oq61 (of_n0 of_b39 (by decide))
  have n39xxxxxx : ¬ th_MR G Γ H61 b39 := fun w => n39xxxxx (th_MR_s hu oq61 w)
  have k46xxxx := tm_MAo k46xxx oq61 (of_n0 of_b46 (by decide))
  have n46xxxx : ¬ th_MR G Γ H61 b46 := fun w => n46xxx (th_MR_s hu oq61 w)
  have k54xx := tm_MAo k54x oq61 (of_n0 of_b54 (by decide))
  have n54xx : ¬ th_MR G Γ H61 b54 := fun w => n54x (th_MR_s hu oq61 w)
  have hs : H61.size = H0.size + 7 := by omega
  refine lv_aload_n hx hb gX1_init_4.2.1 rfl (lv_at hl 0 rfl) ?_
  refine lv_bipush (v := 8) hx hb gX1_init_4.2.2.1 (by decide) ?_
  refine tc_put hC cf_X1 hB.1 ho (j := 8) (by decide) rfl rfl rfl kf_X1_37 gX1_init_4.2.2.2.1 (fun H67 locs hB1 ho z67 oq67 => ?_)
  have hu := hB.1.2.2.2.2.1
  have hB := th_NR_s hB hB1 hu hB.2.2.1 (by omega) oq67
  have hIN := th_IN_s hIN hu oq67
  have k7xxxxxxxxxxxxxxx := tm_MAo k7xxxxxxxxxxxxxx oq67 (of_n0 of_b7 (by decide))
  have n7xxxxxxxxxxxxxxx : ¬ th_MR G Γ H67 b7 := fun w => n7xxxxxxxxxxxxxx (th_MR_s hu oq67 w)
  have k15xxxxxxxxxxxxx := tm_MAo k15xxxxxxxxxxxx oq67 (of_n0 of_b15 (by decide))
  have n15xxxxxxxxxxxxx : ¬ th_MR G Γ H67 b15 := fun w => n15xxxxxxxxxxxx (th_MR_s hu oq67 w)
  have k23xxxxxxxxxxx := tm_MAo k23xxxxxxxxxx oq67 (of_n0 of_b23 (by decide))
  have n23xxxxxxxxxxx : ¬ th_MR G Γ H67 b23 := fun w => n23xxxxxxxxxx (th_MR_s hu oq67 w)
  have k31xxxxxxxxx := tm_MAo k31xxxxxxxx oq67 (of_n0 of_b31 (by decide))
  have n31xxxxxxxxx : ¬ th_MR G Γ H67 b31 := fun w => n31xxxxxxxx (th_MR_s hu oq67 w)
  have k39xxxxxxx := tm_MAo k39xxxxxx oq67 (of_n0 of_b39 (by decide))
  have n39xxxxxxx : ¬ th_MR G Γ H67 b39 := fun w => n39xxxxxx (th_MR_s hu oq67 w)
  have k46xxxxx := tm_MAo k46xxxx oq67 (of_n0 of_b46 (by decide))
  have n46xxxxx : ¬ th_MR G Γ H67 b46 := fun w => n46xxxx (th_MR_s hu oq67 w)
  have k54xxx := tm_MAo k54xx oq67 (of_n0 of_b54 (by decide))
  have n54xxx : ¬ th_MR G Γ H67 b54 := fun w => n54xx (th_MR_s hu oq67 w)
  have hs : H67.size = H0.size + 7 := by omega
  refine lv_aload_n hx hb gX1_init_4.2.2.2.2.1 rfl (lv_at hl 0 rfl) ?_
  refine lv_bipush (v := 8) hx hb gX1_init_4.2.2.2.2.2.1 (by decide) ?_
  refine tc_put hC cf_X1 hB.1 ho (j := 9) (by decide) rfl rfl rfl kf_X1_40 gX1_init_4.2.2.2.2.2.2.1 (fun H73 locs hB1 ho z73 oq73 => ?_)
  have hu := hB.1.2.2.2.2.1
  have hB := th_NR_s hB hB1 hu hB.2.2.1 (by omega) oq73
  have hIN := th_IN_s hIN hu oq73
  have k7xxxxxxxxxxxxxxxx := tm_MAo k7xxxxxxxxxxxxxxx oq73 (of_n0 of_b7 (by decide))
  have n7xxxxxxxxxxxxxxxx : ¬ th_MR G Γ H73 b7 := fun w => n7xxxxxxxxxxxxxxx (th_MR_s hu oq73 w)
  have k15xxxxxxxxxxxxxx := tm_MAo k15xxxxxxxxxxxxx oq73 (of_n0 of_b15 (by decide))
  have n15xxxxxxxxxxxxxx : ¬ th_MR G Γ H73 b15 := fun w => n15xxxxxxxxxxxxx (th_MR_s hu oq73 w)
  have k23xxxxxxxxxxxx := tm_MAo k23xxxxxxxxxxx oq73 (of_n0 of_b23 (by decide))
  have n23xxxxxxxxxxxx : ¬ th_MR G Γ H73 b23 := fun w => n23xxxxxxxxxxx (th_MR_s hu oq73 w)
  have k31xxxxxxxxxx := tm_MAo k31xxxxxxxxx oq73 (of_n0 of_b31 (by decide))
  have n31xxxxxxxxxx : ¬ th_MR G Γ H73 b31 := fun w => n31xxxxxxxxx (th_MR_s hu oq73 w)
  have k39xxxxxxxx := tm_MAo k39xxxxxxx oq73 (of_n0 of_b39 (by decide))
  have n39xxxxxxxx : ¬ th_MR G Γ H73 b39 := fun w => n39xxxxxxx (th_MR_s hu oq73 w)
  have k46xxxxxx := tm_MAo k46xxxxx oq73 (of_n0 of_b46 (by decide))
  have n46xxxxxx : ¬ th_MR G Γ H73 b46 := fun w => n46xxxxx (th_MR_s hu oq73 w)
  have k54xxxx := tm_MAo k54xxx oq73 (of_n0 of_b54 (by decide))
  have n54xxxx : ¬ th_MR G Γ H73 b54 := fun w => n54xxx (th_MR_s hu oq73 w)
  have hs : H73.size = H0.size + 7 := by omega
  refine lv_aload_n hx hb gX1_init_4.2.2.2.2.2.2.2 rfl (lv_at hl 0 rfl) ?_
  refine lv_iconst (v := 0) hx hb gX1_init_5.1 (by decide) ?_
  refine tc_put hC cf_X1 hB.1 ho (j := 10) (by decide) rfl rfl rfl kf_X1_43 gX1_init_5.2.1 (fun H78 locs hB1 ho z78 oq78 => ?_)
  have hu := hB.1.2.2.2.2.1
  have hB := th_NR_s hB hB1 hu hB.2.2.1 (by omega) oq78
  have hIN := th_IN_s hIN hu oq78
  have k7xxxxxxxxxxxxxxxxx := tm_MAo k7xxxxxxxxxxxxxxxx oq78 (of_n0 of_b7 (by decide))
  have n7xxxxxxxxxxxxxxxxx : ¬ th_MR G Γ H78 b7 := fun w => n7xxxxxxxxxxxxxxxx (th_MR_s hu oq78 w)
  have k15xxxxxxxxxxxxxxx := tm_MAo k15xxxxxxxxxxxxxx oq78 (of_n0 of_b15 (by decide))
  have n15xxxxxxxxxxxxxxx : ¬ th_MR G Γ H78 b15 := fun w => n15xxxxxxxxxxxxxx (th_MR_s hu oq78 w)
  have k23xxxxxxxxxxxxx := tm_MAo k23xxxxxxxxxxxx oq78 (of_n0 of_b23 (by decide))
  have n23xxxxxxxxxxxxx : ¬ th_MR G Γ H78 b23 := fun w => n23xxxxxxxxxxxx (th_MR_s hu oq78 w)
  have k31xxxxxxxxxxx := tm_MAo k31xxxxxxxxxx oq78 (of_n0 of_b31 (by decide))
  have n31xxxxxxxxxxx : ¬ th_MR G Γ H78 b31 := fun w => n31xxxxxxxxxx (th_MR_s hu oq78 w)
  have k39xxxxxxxxx := tm_MAo k39xxxxxxxx oq78 (of_n0 of_b39 (by decide))
  have n39xxxxxxxxx : ¬ th_MR G Γ H78 b39 := fun w => n39xxxxxxxx (th_MR_s hu oq78 w)
  have k46xxxxxxx := tm_MAo k46xxxxxx oq78 (of_n0 of_b46 (by decide))
  have n46xxxxxxx : ¬ th_MR G Γ H78 b46 := fun w => n46xxxxxx (th_MR_s hu oq78 w)
  have k54xxxxx := tm_MAo k54xxxx oq78 (of_n0 of_b54 (by decide))
  have n54xxxxx : ¬ th_MR G Γ H78 b54 := fun w => n54xxxx (th_MR_s hu oq78 w)
  have hs : H78.size = H0.size + 7 := by omega
  refine lv_aload_n hx hb gX1_init_5.2.2.1 rfl (lv_at hl 0 rfl) ?_
  refine tc_get hC cf_X1 ho (j := 5) (by decide) rfl kf_X1_27 gX1_init_5.2.2.2.1 ?_
  refine lv_iconst (v := 1) hx hb gX1_init_5.2.2.2.2.1 (by decide) ?_
  refine lv_iconst (v := 1) hx hb gX1_init_5.2.2.2.2.2.1 (by decide) ?_
  refine tc_iast (x := 1) hC hB.1 k46xxxxxxx lb46 tk_1 (by decide) (by decide) gX1_init_5.2.2.2.2.2.2.1 (fun H87 locs hB1 kq z87 oq87 => ?_)
  have hq := k46xxxxxxx.2.1
  have hB := th_NR_s hB hB1 hq n46xxxxxxx (by omega) oq87
  have hIN := th_IN_s hIN hq oq87
  have n46xxxxxxxx : ¬ th_MR G Γ H87 b46 := fun w => n46xxxxxxx (th_MR_s hq oq87 w)
  have ho := tc_OBo ho oq87 (by have q9 := lb46; omega)
  have k7xxxxxxxxxxxxxxxxxx := tm_MAo k7xxxxxxxxxxxxxxxxx oq87 (fun e => (of_ne of_b7 of_b46 (by decide)) e)
  have n7xxxxxxxxxxxxxxxxxx : ¬ th_MR G Γ H87 b7 := fun w => n7xxxxxxxxxxxxxxxxx (th_MR_s hq oq87 w)
  have k15xxxxxxxxxxxxxxxx := tm_MAo k15xxxxxxxxxxxxxxx oq87 (fun e => (of_ne of_b15 of_b46 (by decide)) e)
  have n15xxxxxxxxxxxxxxxx : ¬ th_MR G Γ H87 b15 := fun w => n15xxxxxxxxxxxxxxx (th_MR_s hq oq87 w)
  have k23xxxxxxxxxxxxxx := tm_MAo k23xxxxxxxxxxxxx oq87 (fun e => (of_ne of_b23 of_b46 (by decide)) e)
  have n23xxxxxxxxxxxxxx : ¬ th_MR G Γ H87 b23 := fun w => n23xxxxxxxxxxxxx (th_MR_s hq oq87 w)
  have k31xxxxxxxxxxxx := tm_MAo k31xxxxxxxxxxx oq87 (fun e => (of_ne of_b31 of_b46 (by decide)) e)
  have n31xxxxxxxxxxxx : ¬ th_MR G Γ H87 b31 := fun w => n31xxxxxxxxxxx (th_MR_s hq oq87 w)
  have k39xxxxxxxxxx := tm_MAo k39xxxxxxxxx oq87 (fun e => (of_ne of_b39 of_b46 (by decide)) e)
  have n39xxxxxxxxxx : ¬ th_MR G Γ H87 b39 := fun w => n39xxxxxxxxx (th_MR_s hq oq87 w)
  have k54xxxxxx := tm_MAo k54xxxxx oq87 (fun e => (of_ne of_b46 of_b54 (by decide)) e.symm)
  have n54xxxxxx : ¬ th_MR G Γ H87 b54 := fun w => n54xxxxx (th_MR_s hq oq87 w)
  have kz87 := kq
  have hs : H87.size = H0.size + 7 := by omega
  have hI1 := hB.1.1
  have hR1 := hB.2.1
  have hI2 := th_nmA (r := 4) (o := a0) hI1 k7xxxxxxxxxxxxxxxxxx ro_4 (Nat.le_refl _) (Nat.le_refl _) (fun i _ => th_sI (x := 0) (by decide) (by decide))
  have hR1 := th_RC_up hI1 hR1 (x := (4, a0)) k7xxxxxxxxxxxxxxxxxx.2.1 n7xxxxxxxxxxxxxxxxxx hI2 (fun e => absurd (show (4 : Nat) = 3 from e) (by decide)) (fun e => absurd (show (4 : Nat) = 18 ∨ (4 : Nat) = 19 from e) (by decide)) (show (4 : Nat) ≠ 12 by decide)
  have hI1 := hI2
  have hIN := th_IN_up (b := b7) (x := (4, a0)) hIN (ini_r rfl rfl rfl rfl (fun i hi => th_sl_at k7xxxxxxxxxxxxxxxxxx.2.2 (arrV_read _ _ hi)))
  have ho := th_OB_up (b := b7) (x := (4, a0)) ho (by have q9 := lb7; omega)
  have k15xxxxxxxxxxxxxxxxu := th_MA_up (b := b7) (x := (4, a0)) k15xxxxxxxxxxxxxxxx (fun e => (of_ne of_b7 of_b15 (by decide)) e.symm)
  have n15xxxxxxxxxxxxxxxxu : ¬ th_MR G (th_up Γ b7 (4, a0)) H87 b15 := fun w => n15xxxxxxxxxxxxxxxx (th_MR_up (show (4 : Nat) ≠ 12 by decide) w)
  have k23xxxxxxxxxxxxxxu := th_MA_up (b := b7) (x := (4, a0)) k23xxxxxxxxxxxxxx (fun e => (of_ne of_b7 of_b23 (by decide)) e.symm)
  have n23xxxxxxxxxxxxxxu : ¬ th_MR G (th_up Γ b7 (4, a0)) H87 b23 := fun w => n23xxxxxxxxxxxxxx (th_MR_up (show (4 : Nat) ≠ 12 by decide) w)
  have k31xxxxxxxxxxxxu := th_MA_up (b := b7) (x := (4, a0)) k31xxxxxxxxxxxx (fun e => (of_ne of_b7 of_b31 (by decide)) e.symm)
  have n31xxxxxxxxxxxxu : ¬ th_MR G (th_up Γ b7 (4, a0)) H87 b31 := fun w => n31xxxxxxxxxxxx (th_MR_up (show (4 : Nat) ≠ 12 by decide) w)
  have k39xxxxxxxxxxu := th_MA_up (b := b7) (x := (4, a0)) k39xxxxxxxxxx (fun e => (of_ne of_b7 of_b39 (by decide)) e.symm)
  have n39xxxxxxxxxxu : ¬ th_MR G (th_up Γ b7 (4, a0)) H87 b39 := fun w => n39xxxxxxxxxx (th_MR_up (show (4 : Nat) ≠ 12 by decide) w)
  have kz87u := th_MA_up (b := b7) (x := (4, a0)) kz87 (fun e => (of_ne of_b7 of_b46 (by decide)) e.symm)
  have n46xxxxxxxxu : ¬ th_MR G (th_up Γ b7 (4, a0)) H87 b46 := fun w => n46xxxxxxxx (th_MR_up (show (4 : Nat) ≠ 12 by decide) w)
  have k54xxxxxxu := th_MA_up (b := b7) (x := (4, a0)) k54xxxxxx (fun e => (of_ne of_b7 of_b54 (by decide)) e.symm)
  have n54xxxxxxu : ¬ th_MR G (th_up Γ b7 (4, a0)) H87 b54 := fun w => n54xxxxxx (th_MR_up (show (4 : Nat) ≠ 12 by decide) w)
  have hI2 := th_nmA (r := 5) (o := a0) hI1 k15xxxxxxxxxxxxxxxxu ro_5 (Nat.le_refl _) (Nat.le_refl _) (fun i _ => th_sI (x := 0) (by decide) (by decide))
  have hR1 := th_RC_up hI1 hR1 (x := (5, a0)) k15xxxxxxxxxxxxxxxxu.2.1 n15xxxxxxxxxxxxxxxxu hI2 (fun e => absurd (show (5 : Nat) = 3 from e) (by decide)) (fun e => absurd (show (5 : Nat) = 18 ∨ (5 : Nat) = 19 from e) (by decide)) (show (5 : Nat) ≠ 12 by decide)
  have hI1 := hI2
  have hIN := th_IN_up (b := b15) (x := (5, a0)) hIN (ini_r rfl rfl rfl rfl (fun i hi => th_sl_at k15xxxxxxxxxxxxxxxx.2.2 (arrV_read _ _ hi)))
  have ho := th_OB_up (b := b15) (x := (5, a0)) ho (by have q9 := lb15; omega)
  have k23xxxxxxxxxxxxxxuu := th_MA_up (b := b15) (x := (5, a0)) k23xxxxxxxxxxxxxxu (fun e => (of_ne of_b15 of_b23 (by decide)) e.symm)
  have n23xxxxxxxxxxxxxxuu : ¬ th_MR G (th_up (th_up Γ b7 (4, a0)) b15 (5, a0)) H87 b23 := fun w => n23xxxxxxxxxxxxxxu (th_MR_up (show (5 : Nat) ≠ 12 by decide) w)
  have k31xxxxxxxxxxxxuu := th_MA_up (b := b15) (x := (5, a0)) k31xxxxxxxxxxxxu (fun e => (of_ne of_b15 of_b31 (by decide)) e.symm)
  have n31xxxxxxxxxxxxuu : ¬ th_MR G (th_up (th_up Γ b7 (4, a0)) b15 (5, a0)) H87 b31 := fun w => n31xxxxxxxxxxxxu (th_MR_up (show (5 : Nat) ≠ 12 by decide) w)
  have k39xxxxxxxxxxuu := th_MA_up (b := b15) (x := (5, a0)) k39xxxxxxxxxxu (fun e => (of_ne of_b15 of_b39 (by decide)) e.symm)
  have n39xxxxxxxxxxuu : ¬ th_MR G (th_up (th_up Γ b7 (4, a0)) b15 (5, a0)) H87 b39 := fun w => n39xxxxxxxxxxu (th_MR_up (show (5 : Nat) ≠ 12 by decide) w)
  have kz87uu := th_MA_up (b := b15) (x := (5, a0)) kz87u (fun e => (of_ne of_b15 of_b46 (by decide)) e.symm)
  have n46xxxxxxxxuu : ¬ th_MR G (th_up (th_up Γ b7 (4, a0)) b15 (5, a0)) H87 b46 := fun w => n46xxxxxxxxu (th_MR_up (show (5 : Nat) ≠ 12 by decide) w)
  have k54xxxxxxuu := th_MA_up (b := b15) (x := (5, a0)) k54xxxxxxu (fun e => (of_ne of_b15 of_b54 (by decide)) e.symm)
  have n54xxxxxxuu : ¬ th_MR G (th_up (th_up Γ b7 (4, a0)) b15 (5, a0)) H87 b54 := fun w => n54xxxxxxu (th_MR_up (show (5 : Nat) ≠ 12 by decide) w)
  have hI2 := th_nmA (r := 6) (o := a0) hI1 k23xxxxxxxxxxxxxxuu ro_6 (Nat.le_refl _) (Nat.le_refl _) (fun i _ => th_sI (x := 0) (by decide) (by decide))
  have hR1 := th_RC_up hI1 hR1 (x := (6, a0)) k23xxxxxxxxxxxxxxuu.2.1 n23xxxxxxxxxxxxxxuu hI2 (fun e => absurd (show (6 : Nat) = 3 from e) (by decide)) (fun e => absurd (show (6 : Nat) = 18 ∨ (6 : Nat) = 19 from e) (by decide)) (show (6 : Nat) ≠ 12 by decide)
  have hI1 := hI2
  have hIN := th_IN_up (b := b23) (x := (6, a0)) hIN (ini_r rfl rfl rfl rfl (fun i hi => th_sl_at k23xxxxxxxxxxxxxx.2.2 (arrV_read _ _ hi)))
  have ho := th_OB_up (b := b23) (x := (6, a0)) ho (by have q9 := lb23; omega)
  have k31xxxxxxxxxxxxuuu := th_MA_up (b := b23) (x := (6, a0)) k31xxxxxxxxxxxxuu (fun e => (of_ne of_b23 of_b31 (by decide)) e.symm)
  have n31xxxxxxxxxxxxuuu : ¬ th_MR G (th_up (th_up (th_up Γ b7 (4, a0)) b15 (5, a0)) b23 (6, a0)) H87 b31 := fun w => n31xxxxxxxxxxxxuu (th_MR_up (show (6 : Nat) ≠ 12 by decide) w)
  have k39xxxxxxxxxxuuu := th_MA_up (b := b23) (x := (6, a0)) k39xxxxxxxxxxuu (fun e => (of_ne of_b23 of_b39 (by decide)) e.symm)
  have n39xxxxxxxxxxuuu : ¬ th_MR G (th_up (th_up (th_up Γ b7 (4, a0)) b15 (5, a0)) b23 (6, a0)) H87 b39 := fun w => n39xxxxxxxxxxuu (th_MR_up (show (6 : Nat) ≠ 12 by decide) w)
  have kz87uuu := th_MA_up (b := b23) (x := (6, a0)) kz87uu (fun e => (of_ne of_b23 of_b46 (by decide)) e.symm)
  have n46xxxxxxxxuuu : ¬ th_MR G (th_up (th_up (th_up Γ b7 (4, a0)) b15 (5, a0)) b23 (6, a0)) H87 b46 := fun w => n46xxxxxxxxuu (th_MR_up (show (6 : Nat) ≠ 12 by decide) w)
  have k54xxxxxxuuu := th_MA_up (b := b23) (x := (6, a0)) k54xxxxxxuu (fun e => (of_ne of_b23 of_b54 (by decide)) e.symm)
  have n54xxxxxxuuu : ¬ th_MR G (th_up (th_up (th_up Γ b7 (4, a0)) b15 (5, a0)) b23 (6, a0)) H87 b54 := fun w => n54xxxxxxuu (th_MR_up (show (6 : Nat) ≠ 12 by decide) w)
  have hI2 := th_nmA (r := 7) (o := a0) hI1 k31xxxxxxxxxxxxuuu ro_7 (Nat.le_refl _) (Nat.le_refl _) (fun i _ => th_sI (x := 0) (by decide) (by decide))
  have hR1 := th_RC_up hI1 hR1 (x := (7, a0)) k31xxxxxxxxxxxxuuu.2.1 n31xxxxxxxxxxxxuuu hI2 (fun e => absurd (show (7 : Nat) = 3 from e) (by decide)) (fun e => absurd (show (7 : Nat) = 18 ∨ (7 : Nat) = 19 from e) (by decide)) (show (7 : Nat) ≠ 12 by decide)
  have hI1 := hI2
  have hIN := th_IN_up (b := b31) (x := (7, a0)) hIN (ini_r rfl rfl rfl rfl (fun i hi => th_sl_at k31xxxxxxxxxxxx.2.2 (arrV_read _ _ hi)))
  have ho := th_OB_up (b := b31) (x := (7, a0)) ho (by have q9 := lb31; omega)
  have k39xxxxxxxxxxuuuu := th_MA_up (b := b31) (x := (7, a0)) k39xxxxxxxxxxuuu (fun e => (of_ne of_b31 of_b39 (by decide)) e.symm)
  have n39xxxxxxxxxxuuuu : ¬ th_MR G (th_up (th_up (th_up (th_up Γ b7 (4, a0)) b15 (5, a0)) b23 (6, a0)) b31 (7, a0)) H87 b39 := fun w => n39xxxxxxxxxxuuu (th_MR_up (show (7 : Nat) ≠ 12 by decide) w)
  have kz87uuuu := th_MA_up (b := b31) (x := (7, a0)) kz87uuu (fun e => (of_ne of_b31 of_b46 (by decide)) e.symm)
  have n46xxxxxxxxuuuu : ¬ th_MR G (th_up (th_up (th_up (th_up Γ b7 (4, a0)) b15 (5, a0)) b23 (6, a0)) b31 (7, a0)) H87 b46 := fun w => n46xxxxxxxxuuu (th_MR_up (show (7 : Nat) ≠ 12 by decide) w)
  have k54xxxxxxuuuu := th_MA_up (b := b31) (x := (7, a0)) k54xxxxxxuuu (fun e => (of_ne of_b31 of_b54 (by decide)) e.symm)
  have n54xxxxxxuuuu : ¬ th_MR G (th_up (th_up (th_up (th_up Γ b7 (4, a0)) b15 (5, a0)) b23 (6, a0)) b31 (7, a0)) H87 b54 := fun w => n54xxxxxxuuu (th_MR_up (show (7 : Nat) ≠ 12 by decide) w)
  have hI2 := th_nmA (r := 8) (o := a0) hI1 k39xxxxxxxxxxuuuu ro_8 (Nat.le_refl _) (Nat.le_refl _) (fun i _ => th_sI (x := 0) (by decide) (by decide))
  have hR1 := th_RC_up hI1 hR1 (x := (8, a0)) k39xxxxxxxxxxuuuu.2.1 n39xxxxxxxxxxuuuu hI2 (fun e => absurd (show (8 : Nat) = 3 from e) (by decide)) (fun e => absurd (show (8 : Nat) = 18 ∨ (8 : Nat) = 19 from e) (by decide)) (show (8 : Nat) ≠ 12 by decide)
  have hI1 := hI2
  have hIN := th_IN_up (b := b39) (x := (8, a0)) hIN (ini_r rfl rfl rfl rfl (fun i hi => th_sl_at k39xxxxxxxxxx.2.2 (arrV_read _ _ hi)))
  have ho := th_OB_up (b := b39) (x := (8, a0)) ho (by have q9 := lb39; omega)
  have kz87uuuuu := th_MA_up (b := b39) (x := (8, a0)) kz87uuuu (fun e => (of_ne of_b39 of_b46 (by decide)) e.symm)
  have n46xxxxxxxxuuuuu : ¬ th_MR G (th_up (th_up (th_up (th_up (th_up Γ b7 (4, a0)) b15 (5, a0)) b23 (6, a0)) b31 (7, a0)) b39 (8, a0)) H87 b46 := fun w => n46xxxxxxxxuuuu (th_MR_up (show (8 : Nat) ≠ 12 by decide) w)
  have k54xxxxxxuuuuu := th_MA_up (b := b39) (x := (8, a0)) k54xxxxxxuuuu (fun e => (of_ne of_b39 of_b54 (by decide)) e.symm)
  have n54xxxxxxuuuuu : ¬ th_MR G (th_up (th_up (th_up (th_up (th_up Γ b7 (4, a0)) b15 (5, a0)) b23 (6, a0)) b31 (7, a0)) b39 (8, a0)) H87 b54 := fun w => n54xxxxxxuuuu (th_MR_up (show (8 : Nat) ≠ 12 by decide) w)
  have hI2 := th_nmA (r := 9) (o := a0) hI1 kz87uuuuu ro_9 (Nat.le_refl _) (Nat.le_refl _) (fun i _ => by unfold updV; (repeat' split) <;> exact th_sIa)
  have hR1 := th_RC_up hI1 hR1 (x := (9, a0)) kz87uuuuu.2.1 n46xxxxxxxxuuuuu hI2 (fun e => absurd (show (9 : Nat) = 3 from e) (by decide)) (fun e => absurd (show (9 : Nat) = 18 ∨ (9 : Nat) = 19 from e) (by decide)) (show (9 : Nat) ≠ 12 by decide)
  have hI1 := hI2
  have hIN := th_IN_up (b := b46) (x := (9, a0)) hIN (ini_r rfl rfl rfl rfl (fun i hi => (th_sl_at kz87.2.2 (arrV_read _ _ hi)).trans (by match i, hi with
    | 0, _ => rfl
    | 1, _ => rfl
    | 2, _ => rfl
    | n + 3, h => exact absurd h (by omega))))
  have ho := th_OB_up (b := b46) (x := (9, a0)) ho (by have q9 := lb46; omega)
  have k54xxxxxxuuuuuu := th_MA_up (b := b46) (x := (9, a0)) k54xxxxxxuuuuu (fun e => (of_ne of_b46 of_b54 (by decide)) e.symm)
  have n54xxxxxxuuuuuu : ¬ th_MR G (th_up (th_up (th_up (th_up (th_up (th_up Γ b7 (4, a0)) b15 (5, a0)) b23 (6, a0)) b31 (7, a0)) b39 (8, a0)) b46 (9, a0)) H87 b54 := fun w => n54xxxxxxuuuuu (th_MR_up (show (9 : Nat) ≠ 12 by decide) w)
  have hI2 := th_nmA (r := 10) (o := a0) hI1 k54xxxxxxuuuuuu ro_10 (Nat.le_refl _) (Nat.le_refl _) (fun i _ => th_sI (x := 0) (by decide) (by decide))
  have hR1 := th_RC_up hI1 hR1 (x := (10, a0)) k54xxxxxxuuuuuu.2.1 n54xxxxxxuuuuuu hI2 (fun e => absurd (show (10 : Nat) = 3 from e) (by decide)) (fun e => absurd (show (10 : Nat) = 18 ∨ (10 : Nat) = 19 from e) (by decide)) (show (10 : Nat) ≠ 12 by decide)
  have hI1 := hI2
  have hIN := th_IN_up (b := b54) (x := (10, a0)) hIN (ini_r rfl rfl rfl rfl (fun i hi => th_sl_at k54xxxxxx.2.2 (arrV_read _ _ hi)))
  have ho := th_OB_up (b := b54) (x := (10, a0)) ho (by have q9 := lb54; omega)
  have g_b7 : (th_up (th_up (th_up (th_up (th_up (th_up (th_up Γ b7 (4, a0)) b15 (5, a0)) b23 (6, a0)) b31 (7, a0)) b39 (8, a0)) b46 (9, a0)) b54 (10, a0)) b7 = (4, a0) := (th_up_n ((of_ne of_b7 of_b54 (by decide)))).trans ((th_up_n ((of_ne of_b7 of_b46 (by decide)))).trans ((th_up_n ((of_ne of_b7 of_b39 (by decide)))).trans ((th_up_n ((of_ne of_b7 of_b31 (by decide)))).trans ((th_up_n ((of_ne of_b7 of_b23 (by decide)))).trans ((th_up_n ((of_ne of_b7 of_b15 (by decide)))).trans (th_up_s))))))
  have g_b15 : (th_up (th_up (th_up (th_up (th_up (th_up (th_up Γ b7 (4, a0)) b15 (5, a0)) b23 (6, a0)) b31 (7, a0)) b39 (8, a0)) b46 (9, a0)) b54 (10, a0)) b15 = (5, a0) := (th_up_n ((of_ne of_b15 of_b54 (by decide)))).trans ((th_up_n ((of_ne of_b15 of_b46 (by decide)))).trans ((th_up_n ((of_ne of_b15 of_b39 (by decide)))).trans ((th_up_n ((of_ne of_b15 of_b31 (by decide)))).trans ((th_up_n ((of_ne of_b15 of_b23 (by decide)))).trans (th_up_s)))))
  have g_b23 : (th_up (th_up (th_up (th_up (th_up (th_up (th_up Γ b7 (4, a0)) b15 (5, a0)) b23 (6, a0)) b31 (7, a0)) b39 (8, a0)) b46 (9, a0)) b54 (10, a0)) b23 = (6, a0) := (th_up_n ((of_ne of_b23 of_b54 (by decide)))).trans ((th_up_n ((of_ne of_b23 of_b46 (by decide)))).trans ((th_up_n ((of_ne of_b23 of_b39 (by decide)))).trans ((th_up_n ((of_ne of_b23 of_b31 (by decide)))).trans (th_up_s))))
  have g_b31 : (th_up (th_up (th_up (th_up (th_up (th_up (th_up Γ b7 (4, a0)) b15 (5, a0)) b23 (6, a0)) b31 (7, a0)) b39 (8, a0)) b46 (9, a0)) b54 (10, a0)) b31 = (7, a0) := (th_up_n ((of_ne of_b31 of_b54 (by decide)))).trans ((th_up_n ((of_ne of_b31 of_b46 (by decide)))).trans ((th_up_n ((of_ne of_b31 of_b39 (by decide)))).trans (th_up_s)))
  have g_b39 : (th_up (th_up (th_up (th_up (th_up (th_up (th_up Γ b7 (4, a0)) b15 (5, a0)) b23 (6, a0)) b31 (7, a0)) b39 (8, a0)) b46 (9, a0)) b54 (10, a0)) b39 = (8, a0) := (th_up_n ((of_ne of_b39 of_b54 (by decide)))).trans ((th_up_n ((of_ne of_b39 of_b46 (by decide)))).trans (th_up_s))
  have g_b46 : (th_up (th_up (th_up (th_up (th_up (th_up (th_up Γ b7 (4, a0)) b15 (5, a0)) b23 (6, a0)) b31 (7, a0)) b39 (8, a0)) b46 (9, a0)) b54 (10, a0)) b46 = (9, a0) := (th_up_n ((of_ne of_b46 of_b54 (by decide)))).trans (th_up_s)
  have g_b54 : (th_up (th_up (th_up (th_up (th_up (th_up (th_up Γ b7 (4, a0)) b15 (5, a0)) b23 (6, a0)) b31 (7, a0)) b39 (8, a0)) b46 (9, a0)) b54 (10, a0)) b54 = (10, a0) := th_up_s
  have nm0 : ¬ th_MR G (th_up (th_up (th_up (th_up (th_up (th_up (th_up Γ b7 (4, a0)) b15 (5, a0)) b23 (6, a0)) b31 (7, a0)) b39 (8, a0)) b46 (9, a0)) b54 (10, a0)) H87 a0 := fun w => hB.2.2.1 (th_MR_up (show (4 : Nat) ≠ 12 by decide) (th_MR_up (show (5 : Nat) ≠ 12 by decide) (th_MR_up (show (6 : Nat) ≠ 12 by decide) (th_MR_up (show (7 : Nat) ≠ 12 by decide) (th_MR_up (show (8 : Nat) ≠ 12 by decide) (th_MR_up (show (9 : Nat) ≠ 12 by decide) (th_MR_up (show (10 : Nat) ≠ 12 by decide) w)))))))
  have hI2 := th_nmO (r := 3) hI1 ho hsz ro_3 rfl (fun j q hq => by
    match j, hq with
    | 0, hq => have e9 := Option.some.inj hq; subst e9; exact th_sO g_b7
    | 1, hq => have e9 := Option.some.inj hq; subst e9; exact th_sO g_b15
    | 2, hq => have e9 := Option.some.inj hq; subst e9; exact th_sO g_b23
    | 3, hq => have e9 := Option.some.inj hq; subst e9; exact th_sO g_b31
    | 4, hq => have e9 := Option.some.inj hq; subst e9; exact th_sO g_b39
    | 5, hq => have e9 := Option.some.inj hq; subst e9; exact th_sO g_b46
    | 6, hq => have e9 := Option.some.inj hq; subst e9; exact th_sO g_b54
    | 7, hq => have e9 := Option.some.inj hq; subst e9; exact th_sI (x := 0) (by decide) (by decide)
    | 8, hq => have e9 := Option.some.inj hq; subst e9; exact th_sI (x := 8) (by decide) (by decide)
    | 9, hq => have e9 := Option.some.inj hq; subst e9; exact th_sI (x := 8) (by decide) (by decide)
    | 10, hq => have e9 := Option.some.inj hq; subst e9; exact th_sI (x := 0) (by decide) (by decide)
    | n + 11, hq => exact absurd (List.getElem?_eq_some_iff.mp hq).1 (by simp))
  have hR2 := th_RC_up hI1 hR1 (x := (3, 0)) ho.1 nm0 hI2 (fun _ => tc_XY ho rfl k39xxxxxxxxxxuuuu.2.2) (fun e => absurd e (by decide)) (by decide)
  have hIN2 := th_IN_up (b := a0) (x := (3, 0)) hIN (ini_f (r := 3) ho rfl rfl rfl (fun j x hm => by
    rcases List.mem_cons.mp hm with e | hm
    · cases e; exact ⟨by decide, rfl⟩
    rcases List.mem_cons.mp hm with e | hm
    · cases e; exact ⟨by decide, rfl⟩
    rcases List.mem_cons.mp hm with e | hm
    · cases e; exact ⟨by decide, rfl⟩
    rcases List.mem_cons.mp hm with e | hm
    · cases e; exact ⟨by decide, rfl⟩
    cases hm) (fun j d hm => by
    rcases List.mem_cons.mp hm with e | hm
    · cases e; exact ⟨by decide, by rw [← of_b7]; rfl⟩
    rcases List.mem_cons.mp hm with e | hm
    · cases e; exact ⟨by decide, by rw [← of_b15]; rfl⟩
    rcases List.mem_cons.mp hm with e | hm
    · cases e; exact ⟨by decide, by rw [← of_b23]; rfl⟩
    rcases List.mem_cons.mp hm with e | hm
    · cases e; exact ⟨by decide, by rw [← of_b31]; rfl⟩
    rcases List.mem_cons.mp hm with e | hm
    · cases e; exact ⟨by decide, by rw [← of_b39]; rfl⟩
    rcases List.mem_cons.mp hm with e | hm
    · cases e; exact ⟨by decide, by rw [← of_b46]; rfl⟩
    rcases List.mem_cons.mp hm with e | hm
    · cases e; exact ⟨by decide, by rw [← of_b54]; rfl⟩
    cases hm))
  have gq : ∀ q, q < H0.size → q ≠ a0 → (th_up (th_up (th_up (th_up (th_up (th_up (th_up (th_up Γ b7 (4, a0)) b15 (5, a0)) b23 (6, a0)) b31 (7, a0)) b39 (8, a0)) b46 (9, a0)) b54 (10, a0)) a0 (3, 0)) q = Γ q := fun q h1 h2 => ((((((((th_up_n h2).trans (th_up_n (by have q9 := lb54; omega))).trans (th_up_n (by have q9 := lb46; omega))).trans (th_up_n (by have q9 := lb39; omega))).trans (th_up_n (by have q9 := lb31; omega))).trans (th_up_n (by have q9 := lb23; omega))).trans (th_up_n (by have q9 := lb15; omega))).trans (th_up_n (by have q9 := lb7; omega)))
  refine th_vret hC hH hr hlocks hB.1.2.1 ⟨rfl, (th_up (th_up (th_up (th_up (th_up (th_up (th_up (th_up Γ b7 (4, a0)) b15 (5, a0)) b23 (6, a0)) b31 (7, a0)) b39 (8, a0)) b46 (9, a0)) b54 (10, a0)) a0 (3, 0)), ⟨⟨hI2, (by omega), fun q h1 h2 => ⟨(gq q h1 h2).trans (hB.1.2.2.2.1 q h1 h2), hB.1.2.2.1 q h1 h2⟩⟩, hR2, th_up_s, fun q w => hB.2.2.2 q (th_MR_up (show (4 : Nat) ≠ 12 by decide) (th_MR_up (show (5 : Nat) ≠ 12 by decide) (th_MR_up (show (6 : Nat) ≠ 12 by decide) (th_MR_up (show (7 : Nat) ≠ 12 by decide) (th_MR_up (show (8 : Nat) ≠ 12 by decide) (th_MR_up (show (9 : Nat) ≠ 12 by decide) (th_MR_up (show (10 : Nat) ≠ 12 by decide) (th_MR_up (show (3 : Nat) ≠ 12 by decide) w)))))))), fun q x o hg hq hs => ?_⟩, hIN2, hs⟩ gX1_init_5.2.2.2.2.2.2.2
  by_cases e_a0 : q = a0
  · rw [e_a0, th_up_s] at hg; cases hg; decide
  rw [th_up_n e_a0] at hg
  by_cases e_b54 : q = b54
  · rw [e_b54, th_up_s] at hg; cases hg; decide
  rw [th_up_n e_b54] at hg
  by_cases e_b46 : q = b46
  · rw [e_b46, th_up_s] at hg; cases hg; decide
  rw [th_up_n e_b46] at hg
  by_cases e_b39 : q = b39
  · rw [e_b39, th_up_s] at hg; cases hg; decide
  rw [th_up_n e_b39] at hg
  by_cases e_b31 : q = b31
  · rw [e_b31, th_up_s] at hg; cases hg; decide
  rw [th_up_n e_b31] at hg
  by_cases e_b23 : q = b23
  · rw [e_b23, th_up_s] at hg; cases hg; decide
  rw [th_up_n e_b23] at hg
  by_cases e_b15 : q = b15
  · rw [e_b15, th_up_s] at hg; cases hg; decide
  rw [th_up_n e_b15] at hg
  by_cases e_b7 : q = b7
  · rw [e_b7, th_up_s] at hg; cases hg; decide
  rw [th_up_n e_b7] at hg
  exact (show ∀ x ∈ ([] : List Nat), x ∈ [3, 4, 5, 6, 7, 8, 9, 10] by decide) x (hN q x o hg hq hs)

set_option maxHeartbeats 4000000 in
set_option maxRecDepth 100000 in
theorem c_X2_init_i (l : Launch) (G : th_G) (Γ : th_Ga) (H0 : Heap) (hI : th_I G Γ H0) (hR : th_RC G Γ H0) (a0 : Nat) (ho : th_OB G Γ H0 a0 2 1 (fun j => defaultValue (tyX2 j))) (hsz : G.1.2.2 ≤ a0) (hlt : a0 < H0.size) (hm : ¬ th_MR G Γ H0 a0) (hz1 : H0.size = a0 + 1) : Met l yX2_init (.code yX2_init cX2_init 1 (none) :: th_tb) ({ frames := 2, cells := 4, slots := 94, locals := 32 } : Room) (th_P [.ref a0] G H0) (th_Q (fun (v : Option Value) (H1 : Heap) => v = none ∧ ∃ Γ1 : th_Ga, th_NY G Γ Γ1 a0 11 [11, 23, 24, 25, 26] H0 H1 ∧ th_IN G Γ1 a0 H0 H1 ∧ H1.size = H0.size + 4) G) 4 94 (fun q => G.1.2.2 ≤ q) := by
  refine th_met RX2 (by decide) rfl (Nat.le_of_ble_eq_true rfl) ?_
  intro p e s m below meth c hC hH hr hlocks hnm ls hl
  have hx := hC.1
  have hb := hC.2.1
  have hB : th_NR G Γ Γ a0 H0 H0 [] := ⟨⟨hI, va_S.rf, fun _ _ _ => rfl, fun _ _ _ => rfl, ho.1, hsz, hlt⟩, hR, hm, fun q w => Or.inl w⟩
  have hl : lv_has ls 1 [(0, .ref a0)] := hl
  have hs : H0.size ≤ H0.size := Nat.le_refl _
  have hN := th_new_0 (a0 := a0) hI ho.1
  have hIN := th_IN_0 (a0 := a0) hI ho.1
  refine lv_aload_n hx hb gX2_init_0.1 rfl (lv_at hl 0 rfl) ?_
  refine W.objInit hx hb hC.2.2.2.1 (hC.2.2.2.2.1 _ kw_252) (hC.2.2.2.2.1 _ kw_28) (hC.2.2.2.2.1 _ kw_29) rfl (hl.1.trans hC.2.2.1.symm) rfl gX2_init_0.2.1 (Nat.le_of_ble_eq_true rfl) (Nat.le_of_ble_eq_true rfl) ?_
  refine W.eq (g2 := F0 m 4 ls []) rfl ?_
  refine lv_aload_n hx hb gX2_init_0.2.2.1 rfl (lv_at hl 0 rfl) ?_
  refine tc_new hC cf_X6 hB.1 kw_253 kw_225 kw_7 (Nat.le_of_ble_eq_true rfl) (Nat.le_of_ble_eq_true rfl) gX2_init_0.2.2.2.1 (fun b5 H5 eb5 zb5 oq5 hB1 kn => ?_)
  have of_b5 : b5 = a0 + 1 := by omega
  have n50 : ¬ th_MR G Γ H0 b5 := fun w => absurd (th_MR_lt hB.2.1 w) (by omega)
  have u5 := kn.1
  have hB := th_NR_s hB hB1 u5 n50 (by omega) oq5
  have hIN := th_IN_s hIN u5 oq5
  have nb : ¬ th_MR G Γ H5 b5 := fun w => n50 (th_MR_s u5 oq5 w)
  have ho := tc_OBo ho oq5 (by omega)
  have lbn : H0.size ≤ b5 := by omega
  have ltn : b5 < H5.size := by omega
  have szn : G.1.2.2 ≤ b5 := by have q9 := hB.1.2.2.2.2.2.1; have q8 := hB.1.2.2.2.2.2.2; omega
  have hs : H5.size = H0.size + 1 := by omega
  refine lv_dup hx hb gX2_init_0.2.2.2.2.1 rfl ?_
  refine th_call (th_runI (As := []) (rest := [.ref b5, .ref a0]) hC mf_X6_init km_X2_11 im_X6_init rfl (c_X6_init_i l G Γ H5 hB.1.1 hB.2.1 b5 kn szn ltn nb (by omega)) rfl rfl ⟨Nat.le_of_ble_eq_true rfl, Nat.le_of_ble_eq_true rfl⟩ rfl hl.1 rfl (Nat.le_of_ble_eq_true rfl) gX2_init_0.2.2.2.2.2.1 ⟨Nat.le_of_ble_eq_true rfl, Nat.le_of_ble_eq_true rfl⟩) hB.1.2.1 (fun v9 H9 locs hp hz hS => ?_)
  obtain ⟨rfl, Γ9, hy, hi, hzn⟩ := hp
  have hB := th_NR_c hB hy lbn hS
  have hIN := th_IN_c hIN hy hi
  have ho := tc_OBc ho hy (by omega) (by omega)
  have hr_b5 := hy.2.2.1
  have hs : H9.size = H0.size + 4 := by omega
  have hN := th_new_c hN hy
  refine W.eq (g2 := F0 m 12 ls [.ref b5, .ref a0]) rfl ?_
  refine tc_putF hC cf_X2 hB.1 ho (j := 0) (by decide) rfl hnm rfl rfl kf_X2_12 gX2_init_0.2.2.2.2.2.2.1 (fun H12 locs hB1 ho z12 oq12 => ?_)
  have hu := hB.1.2.2.2.2.1
  have hB := th_NR_s hB hB1 hu hB.2.2.1 (by omega) oq12
  have hIN := th_IN_s hIN hu oq12
  have hs : H12.size = H0.size + 4 := by omega
  have hI1 := hB.1.1
  have hR1 := hB.2.1
  have nm0 : ¬ th_MR G Γ9 H12 a0 := fun w => hB.2.2.1 w
  have hI2 := th_nmO (r := 11) hI1 ho hsz ro_11 rfl (fun j q hq => by
    match j, hq with
    | 0, hq => have e9 := Option.some.inj hq; subst e9; exact th_sR hr_b5
    | n + 1, hq => exact absurd (List.getElem?_eq_some_iff.mp hq).1 (by simp))
  have hR2 := th_RC_up hI1 hR1 (x := (11, 0)) ho.1 nm0 hI2 (fun e => absurd e (by decide)) (fun e => absurd e (by decide)) (by decide)
  have hIN2 := th_IN_up (b := a0) (x := (11, 0)) hIN (ini_f (r := 11) ho rfl rfl rfl (fun j x hm => by
    cases hm) (fun j d hm => by
    rcases List.mem_cons.mp hm with e | hm
    · cases e; exact ⟨by decide, by rw [← of_b5]; rfl⟩
    cases hm))
  have gq : ∀ q, q < H0.size → q ≠ a0 → (th_up Γ9 a0 (11, 0)) q = Γ9 q := fun q h1 h2 => (th_up_n h2)
  refine th_vret hC hH hr hlocks hB.1.2.1 ⟨rfl, (th_up Γ9 a0 (11, 0)), ⟨⟨hI2, (by omega), fun q h1 h2 => ⟨(gq q h1 h2).trans (hB.1.2.2.2.1 q h1 h2), hB.1.2.2.1 q h1 h2⟩⟩, hR2, th_up_s, fun q w => hB.2.2.2 q (th_MR_up (show (11 : Nat) ≠ 12 by decide) w), fun q x o hg hq hs => ?_⟩, hIN2, hs⟩ gX2_init_0.2.2.2.2.2.2.2
  by_cases e_a0 : q = a0
  · rw [e_a0, th_up_s] at hg; cases hg; decide
  rw [th_up_n e_a0] at hg
  exact (show ∀ x ∈ (([] ++ [23, 24, 25, 26]) : List Nat), x ∈ [11, 23, 24, 25, 26] by decide) x (hN q x o hg hq hs)

set_option maxHeartbeats 4000000 in
set_option maxRecDepth 100000 in
theorem c_X4_init_i (l : Launch) (G : th_G) (Γ : th_Ga) (H0 : Heap) (hI : th_I G Γ H0) (hR : th_RC G Γ H0) (a0 : Nat) (ho : th_OB G Γ H0 a0 4 5 (fun j => defaultValue (tyX4 j))) (hsz : G.1.2.2 ≤ a0) (hlt : a0 < H0.size) (hm : ¬ th_MR G Γ H0 a0) (hz1 : H0.size = a0 + 1) : Met l yX4_init (.code yX4_init cX4_init 1 (none) :: th_tb) ({ frames := 2, cells := 10, slots := 1031, locals := 32 } : Room) (th_P [.ref a0] G H0) (th_Q (fun (v : Option Value) (H1 : Heap) => v = none ∧ ∃ Γ1 : th_Ga, th_NY G Γ Γ1 a0 17 [3, 4, 5, 6, 7, 8, 9, 10, 17, 18, 19] H0 H1 ∧ th_IN G Γ1 a0 H0 H1 ∧ H1.size = H0.size + 10) G) 10 1031 (fun q => G.1.2.2 ≤ q) := by
  refine th_met RX4 (by decide) rfl (Nat.le_of_ble_eq_true rfl) ?_
  intro p e s m below meth c hC hH hr hlocks hnm ls hl
  have hx := hC.1
  have hb := hC.2.1
  have hB : th_NR G Γ Γ a0 H0 H0 [] := ⟨⟨hI, va_S.rf, fun _ _ _ => rfl, fun _ _ _ => rfl, ho.1, hsz, hlt⟩, hR, hm, fun q w => Or.inl w⟩
  have hl : lv_has ls 1 [(0, .ref a0)] := hl
  have hs : H0.size ≤ H0.size := Nat.le_refl _
  have hN := th_new_0 (a0 := a0) hI ho.1
  have hIN := th_IN_0 (a0 := a0) hI ho.1
  refine lv_aload_n hx hb gX4_init_0.1 rfl (lv_at hl 0 rfl) ?_
  refine W.objInit hx hb hC.2.2.2.1 (hC.2.2.2.2.1 _ kw_264) (hC.2.2.2.2.1 _ kw_28) (hC.2.2.2.2.1 _ kw_29) rfl (hl.1.trans hC.2.2.1.symm) rfl gX4_init_0.2.1 (Nat.le_of_ble_eq_true rfl) (Nat.le_of_ble_eq_true rfl) ?_
  refine W.eq (g2 := F0 m 4 ls []) rfl ?_
  refine lv_aload_n hx hb gX4_init_0.2.2.1 rfl (lv_at hl 0 rfl) ?_
  refine lv_sipush (v := 480) hx hb gX4_init_0.2.2.2.1 (by decide) ?_
  refine tc_newa (ty := .int) (t := 0) hC hB.1 rfl rfl rfl kw_104 (N := 480) tk_480 (by decide) (Nat.le_of_ble_eq_true rfl) (Nat.le_of_ble_eq_true rfl) gX4_init_0.2.2.2.2.1 (fun b8 H8 eb8 zb8 oq8 hB1 k8 => ?_)
  have u8 := k8.2.1
  have of_b8 : b8 = a0 + 1 := by omega
  have n80 : ¬ th_MR G Γ H0 b8 := fun w => absurd (th_MR_lt hB.2.1 w) (by omega)
  have hB := th_NR_s hB hB1 u8 n80 (by omega) oq8
  have hIN := th_IN_s hIN u8 oq8
  have n8 : ¬ th_MR G Γ H8 b8 := fun w => n80 (th_MR_s u8 oq8 w)
  have lb8 : H0.size ≤ b8 := by omega
  have ho := tc_OBo ho oq8 (by omega)
  have hs : H8.size = H0.size + 1 := by omega
  refine tc_putF hC cf_X4 hB.1 ho (j := 0) (by decide) rfl hnm rfl rfl kf_X4_11 gX4_init_0.2.2.2.2.2.1 (fun H10 locs hB1 ho z10 oq10 => ?_)
  have hu := hB.1.2.2.2.2.1
  have hB := th_NR_s hB hB1 hu hB.2.2.1 (by omega) oq10
  have hIN := th_IN_s hIN hu oq10
  have k8x := tm_MAo k8 oq10 (of_n0 of_b8 (by decide))
  have n8x : ¬ th_MR G Γ H10 b8 := fun w => n8 (th_MR_s hu oq10 w)
  have hs : H10.size = H0.size + 1 := by omega
  refine lv_aload_n hx hb gX4_init_0.2.2.2.2.2.2.1 rfl (lv_at hl 0 rfl) ?_
  refine lv_sipush (v := 480) hx hb gX4_init_0.2.2.2.2.2.2.2 (by decide) ?_
  refine tc_newa (ty := .int) (t := 0) hC hB.1 rfl rfl rfl kw_104 (N := 480) tk_480 (by decide) (Nat.le_of_ble_eq_true rfl) (Nat.le_of_ble_eq_true rfl) gX4_init_1.1 (fun b17 H17 eb17 zb17 oq17 hB1 k17 => ?_)
  have u17 := k17.2.1
  have of_b17 : b17 = a0 + 2 := by omega
  have n170 : ¬ th_MR G Γ H10 b17 := fun w => absurd (th_MR_lt hB.2.1 w) (by omega)
  have hB := th_NR_s hB hB1 u17 n170 (by omega) oq17
  have hIN := th_IN_s hIN u17 oq17
  have n17 : ¬ th_MR G Γ H17 b17 := fun w => n170 (th_MR_s u17 oq17 w)
  have lb17 : H0.size ≤ b17 := by omega
  have ho := tc_OBo ho oq17 (by omega)
  have k8xx := tm_MAo k8x oq17 (of_ne of_b8 of_b17 (by decide))
  have n8xx : ¬ th_MR G Γ H17 b8 := fun w => n8x (th_MR_s u17 oq17 w)
  have hs : H17.size = H0.size + 2 := by omega
  refine tc_putF hC cf_X4 hB.1 ho (j := 1) (by decide) rfl hnm rfl rfl kf_X4_15 gX4_init_1.2.1 (fun H19 locs hB1 ho z19 oq19 => ?_)
  have hu := hB.1.2.2.2.2.1
  have hB := th_NR_s hB hB1 hu hB.2.2.1 (by omega) oq19
  have hIN := th_IN_s hIN hu oq19
  have k8xxx := tm_MAo k8xx oq19 (of_n0 of_b8 (by decide))
  have n8xxx : ¬ th_MR G Γ H19 b8 := fun w => n8xx (th_MR_s hu oq19 w)
  have k17x := tm_MAo k17 oq19 (of_n0 of_b17 (by decide))
  have n17x : ¬ th_MR G Γ H19 b17 := fun w => n17 (th_MR_s hu oq19 w)
  have hs : H19.size = H0.size + 2 := by omega
  refine lv_aload_n hx hb gX4_init_1.2.2.1 rfl (lv_at hl 0 rfl) ?_
  refine tc_new hC cf_X1 hB.1 kw_265 kw_37 kw_3 (Nat.le_of_ble_eq_true rfl) (Nat.le_of_ble_eq_true rfl) gX4_init_1.2.2.2.1 (fun b23 H23 eb23 zb23 oq23 hB1 kn => ?_)
  have of_b23 : b23 = a0 + 3 := by omega
  have n230 : ¬ th_MR G Γ H19 b23 := fun w => absurd (th_MR_lt hB.2.1 w) (by omega)
  have u23 := kn.1
  have hB := th_NR_s hB hB1 u23 n230 (by omega) oq23
  have hIN := th_IN_s hIN u23 oq23
  have nb : ¬ th_MR G Γ H23 b23 := fun w => n230 (th_MR_s u23 oq23 w)
  have ho := tc_OBo ho oq23 (by omega)
  have k8xxxx := tm_MAo k8xxx oq23 (of_ne of_b8 of_b23 (by decide))
  have n8xxxx : ¬ th_MR G Γ H23 b8 := fun w => n8xxx (th_MR_s u23 oq23 w)
  have k17xx := tm_MAo k17x oq23 (of_ne of_b17 of_b23 (by decide))
  have n17xx : ¬ th_MR G Γ H23 b17 := fun w => n17x (th_MR_s u23 oq23 w)
  have lbn : H0.size ≤ b23 := by omega
  have ltn : b23 < H23.size := by omega
  have szn : G.1.2.2 ≤ b23 := by have q9 := hB.1.2.2.2.2.2.1; have q8 := hB.1.2.2.2.2.2.2; omega
  have hs : H23.size = H0.size + 3 := by omega
  refine lv_dup hx hb gX4_init_1.2.2.2.2.1 rfl ?_
  refine th_call (th_runI (As := []) (rest := [.ref b23, .ref a0]) hC mf_X1_init km_X4_20 im_X1_init rfl (c_X1_init_i l G Γ H23 hB.1.1 hB.2.1 b23 kn szn ltn nb (by omega)) rfl rfl ⟨Nat.le_of_ble_eq_true rfl, Nat.le_of_ble_eq_true rfl⟩ rfl hl.1 rfl (Nat.le_of_ble_eq_true rfl) gX4_init_1.2.2.2.2.2.1 ⟨Nat.le_of_ble_eq_true rfl, Nat.le_of_ble_eq_true rfl⟩) hB.1.2.1 (fun v27 H27 locs hp hz hS => ?_)
  obtain ⟨rfl, Γ27, hy, hi, hzn⟩ := hp
  have hB := th_NR_c hB hy lbn hS
  have hIN := th_IN_c hIN hy hi
  have ho := tc_OBc ho hy (by omega) (by omega)
  have n8xxxxx : ¬ th_MR G Γ27 H27 b8 := fun w => (hy.2.2.2.1 _ w).elim n8xxxx (fun w => absurd w (by have q9 := (of_lt hz1 hs of_b8 (by decide)); omega))
  have k8xxxxx := tc_MAc k8xxxx hy (of_ne of_b8 of_b23 (by decide))
  have n17xxx : ¬ th_MR G Γ27 H27 b17 := fun w => (hy.2.2.2.1 _ w).elim n17xx (fun w => absurd w (by have q9 := (of_lt hz1 hs of_b17 (by decide)); omega))
  have k17xxx := tc_MAc k17xx hy (of_ne of_b17 of_b23 (by decide))
  have hr_b23 := hy.2.2.1
  have hs : H27.size = H0.size + 10 := by omega
  have hN := th_new_c hN hy
  refine W.eq (g2 := F0 m 30 ls [.ref b23, .ref a0]) rfl ?_
  refine tc_putF hC cf_X4 hB.1 ho (j := 2) (by decide) rfl hnm rfl rfl kf_X4_21 gX4_init_1.2.2.2.2.2.2.1 (fun H30 locs hB1 ho z30 oq30 => ?_)
  have hu := hB.1.2.2.2.2.1
  have hB := th_NR_s hB hB1 hu hB.2.2.1 (by omega) oq30
  have hIN := th_IN_s hIN hu oq30
  have k8xxxxxx := tm_MAo k8xxxxx oq30 (of_n0 of_b8 (by decide))
  have n8xxxxxx : ¬ th_MR G Γ27 H30 b8 := fun w => n8xxxxx (th_MR_s hu oq30 w)
  have k17xxxx := tm_MAo k17xxx oq30 (of_n0 of_b17 (by decide))
  have n17xxxx : ¬ th_MR G Γ27 H30 b17 := fun w => n17xxx (th_MR_s hu oq30 w)
  have hs : H30.size = H0.size + 10 := by omega
  refine lv_aload_n hx hb gX4_init_1.2.2.2.2.2.2.2 rfl (lv_at hl 0 rfl) ?_
  refine lv_iconst (v := 0) hx hb gX4_init_2.1 (by decide) ?_
  refine tc_put hC cf_X4 hB.1 ho (j := 3) (by decide) rfl rfl rfl kf_X4_25 gX4_init_2.2.1 (fun H35 locs hB1 ho z35 oq35 => ?_)
  have hu := hB.1.2.2.2.2.1
  have hB := th_NR_s hB hB1 hu hB.2.2.1 (by omega) oq35
  have hIN := th_IN_s hIN hu oq35
  have k8xxxxxxx := tm_MAo k8xxxxxx oq35 (of_n0 of_b8 (by decide))
  have n8xxxxxxx : ¬ th_MR G Γ27 H35 b8 := fun w => n8xxxxxx (th_MR_s hu oq35 w)
  have k17xxxxx := tm_MAo k17xxxx oq35 (of_n0 of_b17 (by decide))
  have n17xxxxx : ¬ th_MR G Γ27 H35 b17 := fun w => n17xxxx (th_MR_s hu oq35 w)
  have hs : H35.size = H0.size + 10 := by omega
  refine lv_aload_n hx hb gX4_init_2.2.2.1 rfl (lv_at hl 0 rfl) ?_
  refine lv_iconst (v := 0) hx hb gX4_init_2.2.2.2.1 (by decide) ?_
  refine tc_put hC cf_X4 hB.1 ho (j := 4) (by decide) rfl rfl rfl kf_X4_29 gX4_init_2.2.2.2.2.1 (fun H40 locs hB1 ho z40 oq40 => ?_)
  have hu := hB.1.2.2.2.2.1
  have hB := th_NR_s hB hB1 hu hB.2.2.1 (by omega) oq40
  have hIN := th_IN_s hIN hu oq40
  have k8xxxxxxxx := tm_MAo k8xxxxxxx oq40 (of_n0 of_b8 (by decide))
  have n8xxxxxxxx : ¬ th_MR G Γ27 H40 b8 := fun w => n8xxxxxxx (th_MR_s hu oq40 w)
  have k17xxxxxx := tm_MAo k17xxxxx oq40 (of_n0 of_b17 (by decide))
  have n17xxxxxx : ¬ th_MR G Γ27 H40 b17 := fun w => n17xxxxx (th_MR_s hu oq40 w)
  have hs : H40.size = H0.size + 10 := by omega
  have hI1 := hB.1.1
  have hR1 := hB.2.1
  have hI2 := th_nmA (r := 18) (o := a0) hI1 k8xxxxxxxx ro_18 (Nat.le_refl _) (Nat.le_refl _) (fun i _ => th_sI (x := 0) (by decide) (by decide))
  have hR1 := th_RC_up hI1 hR1 (x := (18, a0)) k8xxxxxxxx.2.1 n8xxxxxxxx hI2 (fun e => absurd (show (18 : Nat) = 3 from e) (by decide)) (fun _ => tc_PS k8xxxxxxxx.2.2) (show (18 : Nat) ≠ 12 by decide)
  have hI1 := hI2
  have hIN := th_IN_up (b := b8) (x := (18, a0)) hIN (ini_r rfl rfl rfl rfl (fun i hi => th_sl_at k8xxxxxxxx.2.2 (arrV_read _ _ hi)))
  have ho := th_OB_up (b := b8) (x := (18, a0)) ho (by have q9 := lb8; omega)
  have k17xxxxxxu := th_MA_up (b := b8) (x := (18, a0)) k17xxxxxx (fun e => (of_ne of_b8 of_b17 (by decide)) e.symm)
  have n17xxxxxxu : ¬ th_MR G (th_up Γ27 b8 (18, a0)) H40 b17 := fun w => n17xxxxxx (th_MR_up (show (18 : Nat) ≠ 12 by decide) w)
  have hI2 := th_nmA (r := 19) (o := a0) hI1 k17xxxxxxu ro_19 (Nat.le_refl _) (Nat.le_refl _) (fun i _ => th_sI (x := 0) (by decide) (by decide))
  have hR1 := th_RC_up hI1 hR1 (x := (19, a0)) k17xxxxxxu.2.1 n17xxxxxxu hI2 (fun e => absurd (show (19 : Nat) = 3 from e) (by decide)) (fun _ => tc_PS k17xxxxxxu.2.2) (show (19 : Nat) ≠ 12 by decide)
  have hI1 := hI2
  have hIN := th_IN_up (b := b17) (x := (19, a0)) hIN (ini_r rfl rfl rfl rfl (fun i hi => th_sl_at k17xxxxxx.2.2 (arrV_read _ _ hi)))
  have ho := th_OB_up (b := b17) (x := (19, a0)) ho (by have q9 := lb17; omega)
  have g_b8 : (th_up (th_up Γ27 b8 (18, a0)) b17 (19, a0)) b8 = (18, a0) := (th_up_n ((of_ne of_b8 of_b17 (by decide)))).trans (th_up_s)
  have g_b17 : (th_up (th_up Γ27 b8 (18, a0)) b17 (19, a0)) b17 = (19, a0) := th_up_s
  have nm0 : ¬ th_MR G (th_up (th_up Γ27 b8 (18, a0)) b17 (19, a0)) H40 a0 := fun w => hB.2.2.1 (th_MR_up (show (18 : Nat) ≠ 12 by decide) (th_MR_up (show (19 : Nat) ≠ 12 by decide) w))
  have hI2 := th_nmO (r := 17) hI1 ho hsz ro_17 rfl (fun j q hq => by
    match j, hq with
    | 0, hq => have e9 := Option.some.inj hq; subst e9; exact th_sO g_b8
    | 1, hq => have e9 := Option.some.inj hq; subst e9; exact th_sO g_b17
    | 2, hq => have e9 := Option.some.inj hq; subst e9; exact th_sR ((th_up_n (of_ne of_b23 of_b17 (by decide))).trans ((th_up_n (of_ne of_b23 of_b8 (by decide))).trans hr_b23))
    | 3, hq => have e9 := Option.some.inj hq; subst e9; exact th_sI (x := 0) (by decide) (by decide)
    | 4, hq => have e9 := Option.some.inj hq; subst e9; exact th_sI (x := 0) (by decide) (by decide)
    | n + 5, hq => exact absurd (List.getElem?_eq_some_iff.mp hq).1 (by simp))
  have hR2 := th_RC_up hI1 hR1 (x := (17, 0)) ho.1 nm0 hI2 (fun e => absurd e (by decide)) (fun e => absurd e (by decide)) (by decide)
  have hIN2 := th_IN_up (b := a0) (x := (17, 0)) hIN (ini_f (r := 17) ho rfl rfl rfl (fun j x hm => by
    rcases List.mem_cons.mp hm with e | hm
    · cases e; exact ⟨by decide, rfl⟩
    rcases List.mem_cons.mp hm with e | hm
    · cases e; exact ⟨by decide, rfl⟩
    cases hm) (fun j d hm => by
    rcases List.mem_cons.mp hm with e | hm
    · cases e; exact ⟨by decide, by rw [← of_b8]; rfl⟩
    rcases List.mem_cons.mp hm with e | hm
    · cases e; exact ⟨by decide, by rw [← of_b17]; rfl⟩
    rcases List.mem_cons.mp hm with e | hm
    · cases e; exact ⟨by decide, by rw [← of_b23]; rfl⟩
    cases hm))
  have gq : ∀ q, q < H0.size → q ≠ a0 → (th_up (th_up (th_up Γ27 b8 (18, a0)) b17 (19, a0)) a0 (17, 0)) q = Γ27 q := fun q h1 h2 => (((th_up_n h2).trans (th_up_n (by have q9 := lb17; omega))).trans (th_up_n (by have q9 := lb8; omega)))
  refine th_vret hC hH hr hlocks hB.1.2.1 ⟨rfl, (th_up (th_up (th_up Γ27 b8 (18, a0)) b17 (19, a0)) a0 (17, 0)), ⟨⟨hI2, (by omega), fun q h1 h2 => ⟨(gq q h1 h2).trans (hB.1.2.2.2.1 q h1 h2), hB.1.2.2.1 q h1 h2⟩⟩, hR2, th_up_s, fun q w => hB.2.2.2 q (th_MR_up (show (18 : Nat) ≠ 12 by decide) (th_MR_up (show (19 : Nat) ≠ 12 by decide) (th_MR_up (show (17 : Nat) ≠ 12 by decide) w))), fun q x o hg hq hs => ?_⟩, hIN2, hs⟩ gX4_init_2.2.2.2.2.2
  by_cases e_a0 : q = a0
  · rw [e_a0, th_up_s] at hg; cases hg; decide
  rw [th_up_n e_a0] at hg
  by_cases e_b17 : q = b17
  · rw [e_b17, th_up_s] at hg; cases hg; decide
  rw [th_up_n e_b17] at hg
  by_cases e_b8 : q = b8
  · rw [e_b8, th_up_s] at hg; cases hg; decide
  rw [th_up_n e_b8] at hg
  exact (show ∀ x ∈ (([] ++ [3, 4, 5, 6, 7, 8, 9, 10]) : List Nat), x ∈ [3, 4, 5, 6, 7, 8, 9, 10, 17, 18, 19] by decide) x (hN q x o hg hq hs)

