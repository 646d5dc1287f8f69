section
section TIN
variable {G : th_G} {Γ Γ1 : th_Ga} {H H0 H1 : Heap} {a0 : Nat}
/-- what a new object's fields hold: class, fields -/
def th_iv (r : Nat) : Nat × List (Nat × Int32) := match r with
  | 1 => (0, [])
  | 3 => (1, [(7, 0), (8, 8), (9, 8), (10, 0)])
  | 11 => (2, [])
  | 17 => (4, [(3, 0), (4, 0)])
  | 20 => (5, [])
  | 23 => (6, [])
  | 27 => (7, [])
  | 32 => (8, [(5, 0), (6, (-1)), (7, 0)])
  | 37 => (9, [(1, 0)])
  | 39 => (10, [(2, 0), (3, 0)])
  | 42 => (11, [(14, 0), (15, (-1)), (16, 0), (17, (-1))])
  | _ => (0, [])
/-- what a new row holds: how long, what -/
def th_ir (r : Nat) : Option (Nat × (Nat → Int32)) := match r with
  | 4 => some (9, fun _ => 0)
  | 5 => some (9, fun _ => 0)
  | 6 => some (9, fun _ => 0)
  | 7 => some (9, fun _ => 0)
  | 8 => some (9, fun _ => 0)
  | 9 => some (3, fun i => if i = 1 then 1 else 0)
  | 10 => some (12, fun _ => 0)
  | 18 => some (480, fun _ => 0)
  | 19 => some (480, fun _ => 0)
  | 21 => some (401, fun _ => 0)
  | 22 => some (401, fun _ => 0)
  | 25 => some (23, fun _ => 0)
  | 26 => some (3, fun _ => 0)
  | 28 => some (1296, fun _ => 0)
  | 29 => some (1296, fun _ => 0)
  | 30 => some (1296, fun _ => 0)
  | 31 => some (9, fun _ => 0)
  | 34 => some (6, fun _ => 0)
  | 35 => some (6, fun _ => 0)
  | 36 => some (6, fun _ => 0)
  | 38 => some (400, fun _ => 0)
  | 40 => some (400, fun _ => 0)
  | 41 => some (96, fun _ => 0)
  | 44 => some (2, fun _ => 0)
  | 45 => some (5, fun _ => 0)
  | _ => none
def th_ip (r : Nat) : List (Nat × Nat) := match r with
  | 1 => [(0, 1)]
  | 3 => [(0, 1), (1, 2), (2, 3), (3, 4), (4, 5), (5, 6), (6, 7)]
  | 11 => [(0, 1)]
  | 17 => [(0, 1), (1, 2), (2, 3)]
  | 20 => [(0, 1), (1, 2)]
  | 23 => [(0, 1), (1, 2), (2, 3)]
  | 27 => [(0, 1), (1, 6), (2, 7), (3, 8), (4, 9)]
  | 32 => [(0, 1), (1, 9), (2, 10), (3, 11), (4, 12)]
  | 37 => [(0, 1)]
  | 39 => [(0, 1), (1, 2)]
  | 42 => [(0, 1), (1, 32), (2, 33), (3, 34), (4, 42), (5, 50), (6, 52), (7, 55), (8, 58), (9, 62), (10, 67), (11, 78), (12, 88), (13, 90)]
  | _ => []
def th_iq (r : Nat) : List (Nat × Nat) := match r with
  | 33 => [(0, 4), (1, 7), (2, 10), (3, 13), (4, 16), (5, 19)]
  | 43 => [(0, 59), (1, 90)]
  | _ => []
def th_ini (G : th_G) (H : Heap) (r q : Nat) : Prop := (∀ (j : Nat) (x : Int32), (j, x) ∈ (th_iv r).2 → th_sl H q (G.1.2 (th_iv r).1 j) = .int x) ∧ (∀ (n : Nat) (f : Nat → Int32), th_ir r = some (n, f) → ∀ i, i < n → th_sl H q i = .int (f i)) ∧ (∀ j d : Nat, (j, d) ∈ th_ip r → th_sl H q (G.1.2 (th_iv r).1 j) = .ref (q + d)) ∧ ∀ i d : Nat, (i, d) ∈ th_iq r → th_sl H q i = .ref (q + d)
def th_IN (G : th_G) (Γ : th_Ga) (a0 : Nat) (H0 H : Heap) : Prop := ∀ q r o : Nat, Γ q = (r, o) → (q = a0 ∨ H0.size ≤ q) → (th_ro r).isSome = true → th_ini G H r q
theorem th_ini_k {r q : Nat} (e : H1[q]? = H[q]?) (h : th_ini G H r q) : th_ini G H1 r q := ⟨fun j x hm => (th_sl_kept e _).trans (h.1 j x hm), fun n f hf i hi => (th_sl_kept e _).trans (h.2.1 n f hf i hi), fun j d hm => (th_sl_kept e _).trans (h.2.2.1 j d hm), fun j d hm => (th_sl_kept e _).trans (h.2.2.2 j d hm)⟩
theorem th_IN_0 (hI : th_I G Γ H0) (hu : th_ro (Γ a0).1 = none) : th_IN G Γ a0 H0 H0 := fun q r o hg hq hs => by
  have q9 : th_ro (Γ q).1 = none := by
    rcases hq with rfl | hq
    · exact hu
    · exact tc_un hI hq
  rw [hg] at q9
  rw [q9] at hs
  cases hs
theorem th_IN_s {b : Nat} (h : th_IN G Γ a0 H0 H) (hb : th_ro (Γ b).1 = none) (oq : ∀ q, q ≠ b → H1[q]? = H[q]?) : th_IN G Γ a0 H0 H1 := fun q r o hg hq hs => th_ini_k (oq q (fun e => by rw [← e, hg] at hb; rw [hb] at hs; cases hs)) (h q r o hg hq hs)
theorem th_IN_c {b r : Nat} {Ls : List Nat} (h : th_IN G Γ a0 H0 H) (hy : th_NY G Γ Γ1 b r Ls H H1) (hi : th_IN G Γ1 b H H1) : th_IN G Γ1 a0 H0 H1 := fun q x o hg hq hs => by
  by_cases w : q = b ∨ H.size ≤ q
  · exact hi q x o hg w hs
  · obtain ⟨e1, e2⟩ := hy.1.2.2 q (by omega) (by omega)
    rw [e1] at hg
    exact th_ini_k e2 (h q x o hg hq hs)
theorem th_IN_up {b : Nat} {x : Nat × Nat} (h : th_IN G Γ a0 H0 H) (hx : th_ini G H x.1 b) : th_IN G (th_up Γ b x) a0 H0 H := fun q r o hg hq hs => by
  by_cases e : q = b
  · rw [e, th_up_s] at hg
    rw [e]
    rw [hg] at hx
    exact hx
  · rw [th_up_n e] at hg
    exact h q r o hg hq hs
theorem ini_o {r q : Nat} (h1 : (th_iv r).2 = []) (h2 : th_ir r = none) (h3 : th_ip r = []) (h4 : th_iq r = []) : th_ini G H r q := ⟨fun j x hm => (by rw [h1] at hm; cases hm), fun n f hf => (by rw [h2] at hf; cases hf), fun j d hm => (by rw [h3] at hm; cases hm), fun j d hm => (by rw [h4] at hm; cases hm)⟩
theorem ini_q {r q : Nat} (h1 : (th_iv r).2 = []) (h2 : th_ir r = none) (h3 : th_ip r = []) (h : ∀ i d : Nat, (i, d) ∈ th_iq r → th_sl H q i = .ref (q + d)) : th_ini G H r q := ⟨fun j x hm => (by rw [h1] at hm; cases hm), fun n f hf => (by rw [h2] at hf; cases hf), fun j d hm => (by rw [h3] at hm; cases hm), h⟩
theorem ini_r {r q n : Nat} {f : Nat → Int32} (h1 : (th_iv r).2 = []) (h2 : th_ir r = some (n, f)) (h3 : th_ip r = []) (h4 : th_iq r = []) (h : ∀ i, i < n → th_sl H q i = .int (f i)) : th_ini G H r q := ⟨fun j x hm => (by rw [h1] at hm; cases hm), fun n' f' hf => (by cases h2.symm.trans hf; exact h), fun j d hm => (by rw [h3] at hm; cases hm), fun j d hm => (by rw [h4] at hm; cases hm)⟩
theorem ini_f {r q k N : Nat} {V : Nat → Value} (ho : th_OB G Γ H q k N V) (h1 : (th_iv r).1 = k) (h2 : th_ir r = none) (h4 : th_iq r = []) (h : ∀ (j : Nat) (x : Int32), (j, x) ∈ (th_iv r).2 → j < N ∧ V j = .int x) (h3 : ∀ j d : Nat, (j, d) ∈ th_ip r → j < N ∧ V j = .ref (q + d)) : th_ini G H r q := by
  obtain ⟨-, cell, q1, q2, q3, q4⟩ := ho
  refine ⟨fun j x hm => ?_, fun n f hf => (by rw [h2] at hf; cases hf), fun j d hm => ?_, fun j d hm => (by rw [h4] at hm; cases hm)⟩
  · obtain ⟨e1, e2⟩ := h j x hm
    rw [h1, ← e2]
    exact th_sl_at q1 (q4 j e1)
  · obtain ⟨e1, e2⟩ := h3 j d hm
    rw [h1, ← e2]
    exact th_sl_at q1 (q4 j e1)
theorem sz_oq {b : Nat} (hb : b < H.size) (oq : ∀ q, q ≠ b → H1[q]? = H[q]?) (hz : H.size ≤ H1.size) : H1.size = H.size := by
  have h := oq H.size (by omega)
  rw [Array.getElem?_eq_none (Nat.le_refl _)] at h
  have h2 := Array.getElem?_eq_none_iff.mp h
  omega

theorem of_lt {b k n : Nat} (hz1 : H0.size = a0 + 1) (hs : H1.size = H0.size + n) (ho : b = a0 + k) (h : k ≤ n) : b < H1.size := by omega
theorem of_ne {b c k j : Nat} (h1 : b = a0 + k) (h2 : c = a0 + j) (h : k ≠ j) : b ≠ c := by omega
theorem of_n0 {b k : Nat} (h1 : b = a0 + k) (h : k ≠ 0) : b ≠ a0 := by omega
theorem of_0n {b k : Nat} (h1 : b = a0 + k) (h : k ≠ 0) : a0 ≠ b := by omega
theorem of_ge {b k : Nat} (hz1 : H0.size = a0 + 1) (h1 : b = a0 + k) (h : 1 ≤ k) : H0.size ≤ b := by omega
end TIN
set_option maxHeartbeats 4000000 in
set_option maxRecDepth 100000 in
theorem c_X0_init_i (l : Launch) (G : th_G) (Γ : th_Ga) (H0 : Heap) (hI : th_I G Γ H0) (hR : th_RC G Γ H0) (a0 : Nat) (ho : th_OB G Γ H0 a0 0 1 (fun j => defaultValue (tyX0 j))) (hsz : G.2.2 ≤ a0) (hlt : a0 < H0.size) (hm : ¬ th_MR G Γ H0 a0) (hz1 : H0.size = a0 + 1) : Met l yX0_init (.code yX0_init cX0_init 1 (none) :: th_tb) ({ frames := 1, cells := 1, slots := 200, locals := 12 } : Room) (th_P [.ref a0] G H0) (th_Q (fun (v : Option Value) (H1 : Heap) => v = none ∧ ∃ Γ1 : th_Ga, th_NY G Γ Γ1 a0 1 [1, 2] H0 H1 ∧ th_IN G Γ1 a0 H0 H1 ∧ H1.size = H0.size + 1) G) 1 200 (fun q => G.2.2 ≤ q) := by
  refine th_met RX0 (by decide) rfl (Nat.le_of_ble_eq_true rfl) ?_
  intro p e s m below meth c hC hH hr hlocks hnm ls hl
  have hx := hC.1
  have hb := hC.2.1
  have hB : th_NR G Γ Γ a0 H0 H0 [] := ⟨⟨hI, va_S.rf, fun _ _ _ => rfl, fun _ _ _ => rfl, ho.1, hsz, hlt⟩, hR, hm, fun q w => Or.inl w⟩
  have hl : lv_has ls 1 [(0, .ref a0)] := hl
  have hs : H0.size ≤ H0.size := Nat.le_refl _
  have hN := th_new_0 (a0 := a0) hI ho.1
  have hIN := th_IN_0 (a0 := a0) hI ho.1
  refine lv_aload_n hx hb dX0_init_0 rfl (lv_at hl 0 rfl) ?_
  refine W.objInit hx hb hC.2.2.2.1 (hC.2.2.2.2.1 _ kw_372) (hC.2.2.2.2.1 _ kw_28) (hC.2.2.2.2.1 _ kw_29) rfl (hl.1.trans hC.2.2.1.symm) rfl dX0_init_1 (Nat.le_of_ble_eq_true rfl) (Nat.le_of_ble_eq_true rfl) ?_
  refine W.eq (g2 := F0 m 4 ls []) rfl ?_
  refine lv_aload_n hx hb dX0_init_4 rfl (lv_at hl 0 rfl) ?_
  refine lv_sipush (v := 200) hx hb dX0_init_5 (by decide) ?_
  refine tc_newa (ty := .long) (t := 1) hC hB.1 rfl rfl rfl kw_246 (N := 200) tk_200 (by decide) (Nat.le_of_ble_eq_true rfl) (Nat.le_of_ble_eq_true rfl) dX0_init_8 (fun b8 H8 eb8 zb8 oq8 hB1 k8 => ?_)
  have u8 := k8.2.1
  have of_b8 : b8 = a0 + 1 := by omega
  have n80 : ¬ th_MR G Γ H0 b8 := fun w => absurd (th_MR_lt hB.2.1 w) (by omega)
  have hB := th_NR_s hB hB1 u8 n80 (by omega) oq8
  have hIN := th_IN_s hIN u8 oq8
  have n8 : ¬ th_MR G Γ H8 b8 := fun w => n80 (th_MR_s u8 oq8 w)
  have lb8 : H0.size ≤ b8 := by omega
  have ho := tc_OBo ho oq8 (by omega)
  have hs : H8.size = H0.size + 1 := by omega
  refine tc_putF hC cf_X0 hB.1 ho (j := 0) (by decide) rfl hnm rfl rfl kf_X0_9 dX0_init_10 (fun H10 locs hB1 ho z10 oq10 => ?_)
  have hu := hB.1.2.2.2.2.1
  have hB := th_NR_s hB hB1 hu hB.2.2.1 (by omega) oq10
  have hIN := th_IN_s hIN hu oq10
  have k8x := tm_MAo k8 oq10 (of_n0 of_b8 (by decide))
  have n8x : ¬ th_MR G Γ H10 b8 := fun w => n8 (th_MR_s hu oq10 w)
  have hs : H10.size = H0.size + 1 := by omega
  have hI1 := hB.1.1
  have hR1 := hB.2.1
  have hI2 := th_nmA (r := 2) (o := a0) hI1 k8x ro_2 (Nat.le_refl _) (Nat.le_refl _) (fun i _ => th_sLa (x := 0))
  have hR1 := th_RC_up hI1 hR1 (x := (2, a0)) k8x.2.1 n8x hI2 (fun e => absurd (show (2 : Nat) = 3 from e) (by decide)) (fun e => absurd (show (2 : Nat) = 18 ∨ (2 : Nat) = 19 from e) (by decide)) (show (2 : Nat) ≠ 12 by decide)
  have hI1 := hI2
  have hIN := th_IN_up (b := b8) (x := (2, a0)) hIN (ini_o rfl rfl rfl rfl)
  have ho := th_OB_up (b := b8) (x := (2, a0)) ho (by have q9 := lb8; omega)
  have g_b8 : (th_up Γ b8 (2, a0)) b8 = (2, a0) := th_up_s
  have nm0 : ¬ th_MR G (th_up Γ b8 (2, a0)) H10 a0 := fun w => hB.2.2.1 (th_MR_up (show (2 : Nat) ≠ 12 by decide) w)
  have hI2 := th_nmO (r := 1) hI1 ho hsz ro_1 rfl (fun j q hq => by
    match j, hq with
    | 0, hq => have e9 := Option.some.inj hq; subst e9; exact th_sO g_b8
    | n + 1, hq => exact absurd (List.getElem?_eq_some_iff.mp hq).1 (by simp))
  have hR2 := th_RC_up hI1 hR1 (x := (1, 0)) ho.1 nm0 hI2 (fun e => absurd e (by decide)) (fun e => absurd e (by decide)) (by decide)
  have hIN2 := th_IN_up (b := a0) (x := (1, 0)) hIN (ini_f (r := 1) ho rfl rfl rfl (fun j x hm => by
    cases hm) (fun j d hm => by
    rcases List.mem_cons.mp hm with e | hm
    · cases e; exact ⟨by decide, by rw [← of_b8]; rfl⟩
    cases hm))
  have gq : ∀ q, q < H0.size → q ≠ a0 → (th_up (th_up Γ b8 (2, a0)) a0 (1, 0)) q = Γ q := fun q h1 h2 => ((th_up_n h2).trans (th_up_n (by have q9 := lb8; omega)))
  refine th_vret hC hH hr hlocks hB.1.2.1 ⟨rfl, (th_up (th_up Γ b8 (2, a0)) a0 (1, 0)), ⟨⟨hI2, (by omega), fun q h1 h2 => ⟨(gq q h1 h2).trans (hB.1.2.2.2.1 q h1 h2), hB.1.2.2.1 q h1 h2⟩⟩, hR2, th_up_s, fun q w => hB.2.2.2 q (th_MR_up (show (2 : Nat) ≠ 12 by decide) (th_MR_up (show (1 : Nat) ≠ 12 by decide) w)), fun q x o hg hq hs => ?_⟩, hIN2, hs⟩ dX0_init_13
  by_cases e_a0 : q = a0
  · rw [e_a0, th_up_s] at hg; cases hg; decide
  rw [th_up_n e_a0] at hg
  by_cases e_b8 : q = b8
  · rw [e_b8, th_up_s] at hg; cases hg; decide
  rw [th_up_n e_b8] at hg
  exact (show ∀ x ∈ ([] : List Nat), x ∈ [1, 2] by decide) x (hN q x o hg hq hs)

set_option maxHeartbeats 4000000 in
set_option maxRecDepth 100000 in
theorem c_X5_init_i (l : Launch) (G : th_G) (Γ : th_Ga) (H0 : Heap) (hI : th_I G Γ H0) (hR : th_RC G Γ H0) (a0 : Nat) (ho : th_OB G Γ H0 a0 5 9 (fun j => defaultValue (tyX5 j))) (hsz : G.2.2 ≤ a0) (hlt : a0 < H0.size) (hm : ¬ th_MR G Γ H0 a0) (hz1 : H0.size = a0 + 1) : Met l yX5_init (.code yX5_init cX5_init 1 (none) :: th_tb) ({ frames := 1, cells := 2, slots := 802, locals := 12 } : Room) (th_P [.ref a0] G H0) (th_Q (fun (v : Option Value) (H1 : Heap) => v = none ∧ ∃ Γ1 : th_Ga, th_NY G Γ Γ1 a0 20 [20, 21, 22] H0 H1 ∧ th_IN G Γ1 a0 H0 H1 ∧ H1.size = H0.size + 2) G) 2 802 (fun q => G.2.2 ≤ q) := by
  refine th_met RX5 (by decide) rfl (Nat.le_of_ble_eq_true rfl) ?_
  intro p e s m below meth c hC hH hr hlocks hnm ls hl
  have hx := hC.1
  have hb := hC.2.1
  have hB : th_NR G Γ Γ a0 H0 H0 [] := ⟨⟨hI, va_S.rf, fun _ _ _ => rfl, fun _ _ _ => rfl, ho.1, hsz, hlt⟩, hR, hm, fun q w => Or.inl w⟩
  have hl : lv_has ls 1 [(0, .ref a0)] := hl
  have hs : H0.size ≤ H0.size := Nat.le_refl _
  have hN := th_new_0 (a0 := a0) hI ho.1
  have hIN := th_IN_0 (a0 := a0) hI ho.1
  refine lv_aload_n hx hb dX5_init_0 rfl (lv_at hl 0 rfl) ?_
  refine W.objInit hx hb hC.2.2.2.1 (hC.2.2.2.2.1 _ kw_193) (hC.2.2.2.2.1 _ kw_28) (hC.2.2.2.2.1 _ kw_29) rfl (hl.1.trans hC.2.2.1.symm) rfl dX5_init_1 (Nat.le_of_ble_eq_true rfl) (Nat.le_of_ble_eq_true rfl) ?_
  refine W.eq (g2 := F0 m 4 ls []) rfl ?_
  refine lv_aload_n hx hb dX5_init_4 rfl (lv_at hl 0 rfl) ?_
  refine lv_sipush (v := 401) hx hb dX5_init_5 (by decide) ?_
  refine tc_newa (ty := .int) (t := 0) hC hB.1 rfl rfl rfl kw_104 (N := 401) tk_401 (by decide) (Nat.le_of_ble_eq_true rfl) (Nat.le_of_ble_eq_true rfl) dX5_init_8 (fun b8 H8 eb8 zb8 oq8 hB1 k8 => ?_)
  have u8 := k8.2.1
  have of_b8 : b8 = a0 + 1 := by omega
  have n80 : ¬ th_MR G Γ H0 b8 := fun w => absurd (th_MR_lt hB.2.1 w) (by omega)
  have hB := th_NR_s hB hB1 u8 n80 (by omega) oq8
  have hIN := th_IN_s hIN u8 oq8
  have n8 : ¬ th_MR G Γ H8 b8 := fun w => n80 (th_MR_s u8 oq8 w)
  have lb8 : H0.size ≤ b8 := by omega
  have ho := tc_OBo ho oq8 (by omega)
  have hs : H8.size = H0.size + 1 := by omega
  refine tc_putF hC cf_X5 hB.1 ho (j := 0) (by decide) rfl hnm rfl rfl kf_X5_11 dX5_init_10 (fun H10 locs hB1 ho z10 oq10 => ?_)
  have hu := hB.1.2.2.2.2.1
  have hB := th_NR_s hB hB1 hu hB.2.2.1 (by omega) oq10
  have hIN := th_IN_s hIN hu oq10
  have k8x := tm_MAo k8 oq10 (of_n0 of_b8 (by decide))
  have n8x : ¬ th_MR G Γ H10 b8 := fun w => n8 (th_MR_s hu oq10 w)
  have hs : H10.size = H0.size + 1 := by omega
  refine lv_aload_n hx hb dX5_init_13 rfl (lv_at hl 0 rfl) ?_
  refine lv_sipush (v := 401) hx hb dX5_init_14 (by decide) ?_
  refine tc_newa (ty := .int) (t := 0) hC hB.1 rfl rfl rfl kw_104 (N := 401) tk_401 (by decide) (Nat.le_of_ble_eq_true rfl) (Nat.le_of_ble_eq_true rfl) dX5_init_17 (fun b17 H17 eb17 zb17 oq17 hB1 k17 => ?_)
  have u17 := k17.2.1
  have of_b17 : b17 = a0 + 2 := by omega
  have n170 : ¬ th_MR G Γ H10 b17 := fun w => absurd (th_MR_lt hB.2.1 w) (by omega)
  have hB := th_NR_s hB hB1 u17 n170 (by omega) oq17
  have hIN := th_IN_s hIN u17 oq17
  have n17 : ¬ th_MR G Γ H17 b17 := fun w => n170 (th_MR_s u17 oq17 w)
  have lb17 : H0.size ≤ b17 := by omega
  have ho := tc_OBo ho oq17 (by omega)
  have k8xx := tm_MAo k8x oq17 (of_ne of_b8 of_b17 (by decide))
  have n8xx : ¬ th_MR G Γ H17 b8 := fun w => n8x (th_MR_s u17 oq17 w)
  have hs : H17.size = H0.size + 2 := by omega
  refine tc_putF hC cf_X5 hB.1 ho (j := 1) (by decide) rfl hnm rfl rfl kf_X5_15 dX5_init_19 (fun H19 locs hB1 ho z19 oq19 => ?_)
  have hu := hB.1.2.2.2.2.1
  have hB := th_NR_s hB hB1 hu hB.2.2.1 (by omega) oq19
  have hIN := th_IN_s hIN hu oq19
  have k8xxx := tm_MAo k8xx oq19 (of_n0 of_b8 (by decide))
  have n8xxx : ¬ th_MR G Γ H19 b8 := fun w => n8xx (th_MR_s hu oq19 w)
  have k17x := tm_MAo k17 oq19 (of_n0 of_b17 (by decide))
  have n17x : ¬ th_MR G Γ H19 b17 := fun w => n17 (th_MR_s hu oq19 w)
  have hs : H19.size = H0.size + 2 := by omega
  have hI1 := hB.1.1
  have hR1 := hB.2.1
  have hI2 := th_nmA (r := 21) (o := a0) hI1 k8xxx ro_21 (Nat.le_refl _) (Nat.le_refl _) (fun i _ => th_sI (x := 0) (by decide) (by decide))
  have hR1 := th_RC_up hI1 hR1 (x := (21, a0)) k8xxx.2.1 n8xxx hI2 (fun e => absurd (show (21 : Nat) = 3 from e) (by decide)) (fun e => absurd (show (21 : Nat) = 18 ∨ (21 : Nat) = 19 from e) (by decide)) (show (21 : Nat) ≠ 12 by decide)
  have hI1 := hI2
  have hIN := th_IN_up (b := b8) (x := (21, a0)) hIN (ini_r rfl rfl rfl rfl (fun i hi => th_sl_at k8xxx.2.2 (arrV_read _ _ hi)))
  have ho := th_OB_up (b := b8) (x := (21, a0)) ho (by have q9 := lb8; omega)
  have k17xu := th_MA_up (b := b8) (x := (21, a0)) k17x (fun e => (of_ne of_b8 of_b17 (by decide)) e.symm)
  have n17xu : ¬ th_MR G (th_up Γ b8 (21, a0)) H19 b17 := fun w => n17x (th_MR_up (show (21 : Nat) ≠ 12 by decide) w)
  have hI2 := th_nmA (r := 22) (o := a0) hI1 k17xu ro_22 (Nat.le_refl _) (Nat.le_refl _) (fun i _ => th_sI (x := 0) (by decide) (by decide))
  have hR1 := th_RC_up hI1 hR1 (x := (22, a0)) k17xu.2.1 n17xu hI2 (fun e => absurd (show (22 : Nat) = 3 from e) (by decide)) (fun e => absurd (show (22 : Nat) = 18 ∨ (22 : Nat) = 19 from e) (by decide)) (show (22 : Nat) ≠ 12 by decide)
  have hI1 := hI2
  have hIN := th_IN_up (b := b17) (x := (22, a0)) hIN (ini_r rfl rfl rfl rfl (fun i hi => th_sl_at k17x.2.2 (arrV_read _ _ hi)))
  have ho := th_OB_up (b := b17) (x := (22, a0)) ho (by have q9 := lb17; omega)
  have g_b8 : (th_up (th_up Γ b8 (21, a0)) b17 (22, a0)) b8 = (21, a0) := (th_up_n ((of_ne of_b8 of_b17 (by decide)))).trans (th_up_s)
  have g_b17 : (th_up (th_up Γ b8 (21, a0)) b17 (22, a0)) b17 = (22, a0) := th_up_s
  have nm0 : ¬ th_MR G (th_up (th_up Γ b8 (21, a0)) b17 (22, a0)) H19 a0 := fun w => hB.2.2.1 (th_MR_up (show (21 : Nat) ≠ 12 by decide) (th_MR_up (show (22 : Nat) ≠ 12 by decide) w))
  have hI2 := th_nmO (r := 20) hI1 ho hsz ro_20 rfl (fun j q hq => by
    match j, hq with
    | 0, hq => have e9 := Option.some.inj hq; subst e9; exact th_sO g_b8
    | 1, hq => have e9 := Option.some.inj hq; subst e9; exact th_sO g_b17
    | 2, hq => have e9 := Option.some.inj hq; subst e9; exact th_sN
    | 3, hq => have e9 := Option.some.inj hq; subst e9; exact th_sN
    | 4, hq => have e9 := Option.some.inj hq; subst e9; exact th_sI (x := 0) (by decide) (by decide)
    | 5, hq => have e9 := Option.some.inj hq; subst e9; exact th_sI (x := 0) (by decide) (by decide)
    | 6, hq => have e9 := Option.some.inj hq; subst e9; exact th_sI (x := 0) (by decide) (by decide)
    | 7, hq => have e9 := Option.some.inj hq; subst e9; exact th_sI (x := 0) (by decide) (by decide)
    | 8, hq => have e9 := Option.some.inj hq; subst e9; exact th_sI (x := 0) (by decide) (by decide)
    | n + 9, hq => exact absurd (List.getElem?_eq_some_iff.mp hq).1 (by simp))
  have hR2 := th_RC_up hI1 hR1 (x := (20, 0)) ho.1 nm0 hI2 (fun e => absurd e (by decide)) (fun e => absurd e (by decide)) (by decide)
  have hIN2 := th_IN_up (b := a0) (x := (20, 0)) hIN (ini_f (r := 20) ho rfl rfl rfl (fun j x hm => by
    cases hm) (fun j d hm => by
    rcases List.mem_cons.mp hm with e | hm
    · cases e; exact ⟨by decide, by rw [← of_b8]; rfl⟩
    rcases List.mem_cons.mp hm with e | hm
    · cases e; exact ⟨by decide, by rw [← of_b17]; rfl⟩
    cases hm))
  have gq : ∀ q, q < H0.size → q ≠ a0 → (th_up (th_up (th_up Γ b8 (21, a0)) b17 (22, a0)) a0 (20, 0)) q = Γ q := fun q h1 h2 => (((th_up_n h2).trans (th_up_n (by have q9 := lb17; omega))).trans (th_up_n (by have q9 := lb8; omega)))
  refine th_vret hC hH hr hlocks hB.1.2.1 ⟨rfl, (th_up (th_up (th_up Γ b8 (21, a0)) b17 (22, a0)) a0 (20, 0)), ⟨⟨hI2, (by omega), fun q h1 h2 => ⟨(gq q h1 h2).trans (hB.1.2.2.2.1 q h1 h2), hB.1.2.2.1 q h1 h2⟩⟩, hR2, th_up_s, fun q w => hB.2.2.2 q (th_MR_up (show (21 : Nat) ≠ 12 by decide) (th_MR_up (show (22 : Nat) ≠ 12 by decide) (th_MR_up (show (20 : Nat) ≠ 12 by decide) w))), fun q x o hg hq hs => ?_⟩, hIN2, hs⟩ dX5_init_22
  by_cases e_a0 : q = a0
  · rw [e_a0, th_up_s] at hg; cases hg; decide
  rw [th_up_n e_a0] at hg
  by_cases e_b17 : q = b17
  · rw [e_b17, th_up_s] at hg; cases hg; decide
  rw [th_up_n e_b17] at hg
  by_cases e_b8 : q = b8
  · rw [e_b8, th_up_s] at hg; cases hg; decide
  rw [th_up_n e_b8] at hg
  exact (show ∀ x ∈ ([] : List Nat), x ∈ [20, 21, 22] by decide) x (hN q x o hg hq hs)

set_option maxHeartbeats 4000000 in
set_option maxRecDepth 100000 in
theorem c_X6_init_i (l : Launch) (G : th_G) (Γ : th_Ga) (H0 : Heap) (hI : th_I G Γ H0) (hR : th_RC G Γ H0) (a0 : Nat) (ho : th_OB G Γ H0 a0 6 4 (fun j => defaultValue (tyX6 j))) (hsz : G.2.2 ≤ a0) (hlt : a0 < H0.size) (hm : ¬ th_MR G Γ H0 a0) (hz1 : H0.size = a0 + 1) : Met l yX6_init (.code yX6_init cX6_init 1 (none) :: th_tb) ({ frames := 1, cells := 3, slots := 90, locals := 12 } : Room) (th_P [.ref a0] G H0) (th_Q (fun (v : Option Value) (H1 : Heap) => v = none ∧ ∃ Γ1 : th_Ga, th_NY G Γ Γ1 a0 23 [23, 24, 25, 26] H0 H1 ∧ th_IN G Γ1 a0 H0 H1 ∧ H1.size = H0.size + 3) G) 3 90 (fun q => G.2.2 ≤ q) := by
  refine th_met RX6 (by decide) rfl (Nat.le_of_ble_eq_true rfl) ?_
  intro p e s m below meth c hC hH hr hlocks hnm ls hl
  have hx := hC.1
  have hb := hC.2.1
  have hB : th_NR G Γ Γ a0 H0 H0 [] := ⟨⟨hI, va_S.rf, fun _ _ _ => rfl, fun _ _ _ => rfl, ho.1, hsz, hlt⟩, hR, hm, fun q w => Or.inl w⟩
  have hl : lv_has ls 1 [(0, .ref a0)] := hl
  have hs : H0.size ≤ H0.size := Nat.le_refl _
  have hN := th_new_0 (a0 := a0) hI ho.1
  have hIN := th_IN_0 (a0 := a0) hI ho.1
  refine lv_aload_n hx hb dX6_init_0 rfl (lv_at hl 0 rfl) ?_
  refine W.objInit hx hb hC.2.2.2.1 (hC.2.2.2.2.1 _ kw_229) (hC.2.2.2.2.1 _ kw_28) (hC.2.2.2.2.1 _ kw_29) rfl (hl.1.trans hC.2.2.1.symm) rfl dX6_init_1 (Nat.le_of_ble_eq_true rfl) (Nat.le_of_ble_eq_true rfl) ?_
  refine W.eq (g2 := F0 m 4 ls []) rfl ?_
  refine lv_aload_n hx hb dX6_init_4 rfl (lv_at hl 0 rfl) ?_
  refine lv_bipush (v := 64) hx hb dX6_init_5 (by decide) ?_
  refine tc_newa (ty := .long) (t := 1) hC hB.1 rfl rfl rfl kw_246 (N := 64) tk_64 (by decide) (Nat.le_of_ble_eq_true rfl) (Nat.le_of_ble_eq_true rfl) dX6_init_7 (fun b7 H7 eb7 zb7 oq7 hB1 k7 => ?_)
  have u7 := k7.2.1
  have of_b7 : b7 = a0 + 1 := by omega
  have n70 : ¬ th_MR G Γ H0 b7 := fun w => absurd (th_MR_lt hB.2.1 w) (by omega)
  have hB := th_NR_s hB hB1 u7 n70 (by omega) oq7
  have hIN := th_IN_s hIN u7 oq7
  have n7 : ¬ th_MR G Γ H7 b7 := fun w => n70 (th_MR_s u7 oq7 w)
  have lb7 : H0.size ≤ b7 := by omega
  have ho := tc_OBo ho oq7 (by omega)
  have hs : H7.size = H0.size + 1 := by omega
  refine tc_putF hC cf_X6 hB.1 ho (j := 0) (by decide) rfl hnm rfl rfl kf_X6_9 dX6_init_9 (fun H9 locs hB1 ho z9 oq9 => ?_)
  have hu := hB.1.2.2.2.2.1
  have hB := th_NR_s hB hB1 hu hB.2.2.1 (by omega) oq9
  have hIN := th_IN_s hIN hu oq9
  have k7x := tm_MAo k7 oq9 (of_n0 of_b7 (by decide))
  have n7x : ¬ th_MR G Γ H9 b7 := fun w => n7 (th_MR_s hu oq9 w)
  have hs : H9.size = H0.size + 1 := by omega
  refine lv_aload_n hx hb dX6_init_12 rfl (lv_at hl 0 rfl) ?_
  refine lv_bipush (v := 23) hx hb dX6_init_13 (by decide) ?_
  refine tc_newa (ty := .int) (t := 0) hC hB.1 rfl rfl rfl kw_104 (N := 23) tk_23 (by decide) (Nat.le_of_ble_eq_true rfl) (Nat.le_of_ble_eq_true rfl) dX6_init_15 (fun b15 H15 eb15 zb15 oq15 hB1 k15 => ?_)
  have u15 := k15.2.1
  have of_b15 : b15 = a0 + 2 := by omega
  have n150 : ¬ th_MR G Γ H9 b15 := fun w => absurd (th_MR_lt hB.2.1 w) (by omega)
  have hB := th_NR_s hB hB1 u15 n150 (by omega) oq15
  have hIN := th_IN_s hIN u15 oq15
  have n15 : ¬ th_MR G Γ H15 b15 := fun w => n150 (th_MR_s u15 oq15 w)
  have lb15 : H0.size ≤ b15 := by omega
  have ho := tc_OBo ho oq15 (by omega)
  have k7xx := tm_MAo k7x oq15 (of_ne of_b7 of_b15 (by decide))
  have n7xx : ¬ th_MR G Γ H15 b7 := fun w => n7x (th_MR_s u15 oq15 w)
  have hs : H15.size = H0.size + 2 := by omega
  refine tc_putF hC cf_X6 hB.1 ho (j := 1) (by decide) rfl hnm rfl rfl kf_X6_17 dX6_init_17 (fun H17 locs hB1 ho z17 oq17 => ?_)
  have hu := hB.1.2.2.2.2.1
  have hB := th_NR_s hB hB1 hu hB.2.2.1 (by omega) oq17
  have hIN := th_IN_s hIN hu oq17
  have k7xxx := tm_MAo k7xx oq17 (of_n0 of_b7 (by decide))
  have n7xxx : ¬ th_MR G Γ H17 b7 := fun w => n7xx (th_MR_s hu oq17 w)
  have k15x := tm_MAo k15 oq17 (of_n0 of_b15 (by decide))
  have n15x : ¬ th_MR G Γ H17 b15 := fun w => n15 (th_MR_s hu oq17 w)
  have hs : H17.size = H0.size + 2 := by omega
  refine lv_aload_n hx hb dX6_init_20 rfl (lv_at hl 0 rfl) ?_
  refine lv_iconst (v := 3) hx hb dX6_init_21 (by decide) ?_
  refine tc_newa (ty := .int) (t := 0) hC hB.1 rfl rfl rfl kw_104 (N := 3) tk_3 (by decide) (Nat.le_of_ble_eq_true rfl) (Nat.le_of_ble_eq_true rfl) dX6_init_22 (fun b22 H22 eb22 zb22 oq22 hB1 k22 => ?_)
  have u22 := k22.2.1
  have of_b22 : b22 = a0 + 3 := by omega
  have n220 : ¬ th_MR G Γ H17 b22 := fun w => absurd (th_MR_lt hB.2.1 w) (by omega)
  have hB := th_NR_s hB hB1 u22 n220 (by omega) oq22
  have hIN := th_IN_s hIN u22 oq22
  have n22 : ¬ th_MR G Γ H22 b22 := fun w => n220 (th_MR_s u22 oq22 w)
  have lb22 : H0.size ≤ b22 := by omega
  have ho := tc_OBo ho oq22 (by omega)
  have k7xxxx := tm_MAo k7xxx oq22 (of_ne of_b7 of_b22 (by decide))
  have n7xxxx : ¬ th_MR G Γ H22 b7 := fun w => n7xxx (th_MR_s u22 oq22 w)
  have k15xx := tm_MAo k15x oq22 (of_ne of_b15 of_b22 (by decide))
  have n15xx : ¬ th_MR G Γ H22 b15 := fun w => n15x (th_MR_s u22 oq22 w)
  have hs : H22.size = H0.size + 3 := by omega
  refine tc_putF hC cf_X6 hB.1 ho (j := 2) (by decide) rfl hnm rfl rfl kf_X6_23 dX6_init_24 (fun H24 locs hB1 ho z24 oq24 => ?_)
  have hu := hB.1.2.2.2.2.1
  have hB := th_NR_s hB hB1 hu hB.2.2.1 (by omega) oq24
  have hIN := th_IN_s hIN hu oq24
  have k7xxxxx := tm_MAo k7xxxx oq24 (of_n0 of_b7 (by decide))
  have n7xxxxx : ¬ th_MR G Γ H24 b7 := fun w => n7xxxx (th_MR_s hu oq24 w)
  have k15xxx := tm_MAo k15xx oq24 (of_n0 of_b15 (by decide))
  have n15xxx : ¬ th_MR G Γ H24 b15 := fun w => n15xx (th_MR_s hu oq24 w)
  have k22x := tm_MAo k22 oq24 (of_n0 of_b22 (by decide))
  have n22x : ¬ th_MR G Γ H24 b22 := fun w => n22 (th_MR_s hu oq24 w)
  have hs : H24.size = H0.size + 3 := by omega
  refine lv_aload_n hx hb dX6_init_27 rfl (lv_at hl 0 rfl) ?_
  refine lv_iconst (v := 0) hx hb dX6_init_28 (by decide) ?_
  refine tc_put hC cf_X6 hB.1 ho (j := 3) (by decide) rfl narrow_b0 rfl kf_X6_26 dX6_init_29 (fun H29 locs hB1 ho z29 oq29 => ?_)
  have hu := hB.1.2.2.2.2.1
  have hB := th_NR_s hB hB1 hu hB.2.2.1 (by omega) oq29
  have hIN := th_IN_s hIN hu oq29
  have k7xxxxxx := tm_MAo k7xxxxx oq29 (of_n0 of_b7 (by decide))
  have n7xxxxxx : ¬ th_MR G Γ H29 b7 := fun w => n7xxxxx (th_MR_s hu oq29 w)
  have k15xxxx := tm_MAo k15xxx oq29 (of_n0 of_b15 (by decide))
  have n15xxxx : ¬ th_MR G Γ H29 b15 := fun w => n15xxx (th_MR_s hu oq29 w)
  have k22xx := tm_MAo k22x oq29 (of_n0 of_b22 (by decide))
  have n22xx : ¬ th_MR G Γ H29 b22 := fun w => n22x (th_MR_s hu oq29 w)
  have hs : H29.size = H0.size + 3 := by omega
  have hI1 := hB.1.1
  have hR1 := hB.2.1
  have hI2 := th_nmA (r := 24) (o := a0) hI1 k7xxxxxx ro_24 (Nat.le_refl _) (Nat.le_refl _) (fun i _ => th_sLa (x := 0))
  have hR1 := th_RC_up hI1 hR1 (x := (24, a0)) k7xxxxxx.2.1 n7xxxxxx hI2 (fun e => absurd (show (24 : Nat) = 3 from e) (by decide)) (fun e => absurd (show (24 : Nat) = 18 ∨ (24 : Nat) = 19 from e) (by decide)) (show (24 : Nat) ≠ 12 by decide)
  have hI1 := hI2
  have hIN := th_IN_up (b := b7) (x := (24, a0)) hIN (ini_o rfl rfl rfl rfl)
  have ho := th_OB_up (b := b7) (x := (24, a0)) ho (by have q9 := lb7; omega)
  have k15xxxxu := th_MA_up (b := b7) (x := (24, a0)) k15xxxx (fun e => (of_ne of_b7 of_b15 (by decide)) e.symm)
  have n15xxxxu : ¬ th_MR G (th_up Γ b7 (24, a0)) H29 b15 := fun w => n15xxxx (th_MR_up (show (24 : Nat) ≠ 12 by decide) w)
  have k22xxu := th_MA_up (b := b7) (x := (24, a0)) k22xx (fun e => (of_ne of_b7 of_b22 (by decide)) e.symm)
  have n22xxu : ¬ th_MR G (th_up Γ b7 (24, a0)) H29 b22 := fun w => n22xx (th_MR_up (show (24 : Nat) ≠ 12 by decide) w)
  have hI2 := th_nmA (r := 25) (o := a0) hI1 k15xxxxu ro_25 (Nat.le_refl _) (Nat.le_refl _) (fun i _ => th_sI (x := 0) (by decide) (by decide))
  have hR1 := th_RC_up hI1 hR1 (x := (25, a0)) k15xxxxu.2.1 n15xxxxu hI2 (fun e => absurd (show (25 : Nat) = 3 from e) (by decide)) (fun e => absurd (show (25 : Nat) = 18 ∨ (25 : Nat) = 19 from e) (by decide)) (show (25 : Nat) ≠ 12 by decide)
  have hI1 := hI2
  have hIN := th_IN_up (b := b15) (x := (25, a0)) hIN (ini_r rfl rfl rfl rfl (fun i hi => th_sl_at k15xxxx.2.2 (arrV_read _ _ hi)))
  have ho := th_OB_up (b := b15) (x := (25, a0)) ho (by have q9 := lb15; omega)
  have k22xxuu := th_MA_up (b := b15) (x := (25, a0)) k22xxu (fun e => (of_ne of_b15 of_b22 (by decide)) e.symm)
  have n22xxuu : ¬ th_MR G (th_up (th_up Γ b7 (24, a0)) b15 (25, a0)) H29 b22 := fun w => n22xxu (th_MR_up (show (25 : Nat) ≠ 12 by decide) w)
  have hI2 := th_nmA (r := 26) (o := a0) hI1 k22xxuu ro_26 (Nat.le_refl _) (Nat.le_refl _) (fun i _ => th_sI (x := 0) (by decide) (by decide))
  have hR1 := th_RC_up hI1 hR1 (x := (26, a0)) k22xxuu.2.1 n22xxuu hI2 (fun e => absurd (show (26 : Nat) = 3 from e) (by decide)) (fun e => absurd (show (26 : Nat) = 18 ∨ (26 : Nat) = 19 from e) (by decide)) (show (26 : Nat) ≠ 12 by decide)
  have hI1 := hI2
  have hIN := th_IN_up (b := b22) (x := (26, a0)) hIN (ini_r rfl rfl rfl rfl (fun i hi => th_sl_at k22xx.2.2 (arrV_read _ _ hi)))
  have ho := th_OB_up (b := b22) (x := (26, a0)) ho (by have q9 := lb22; omega)
  have g_b7 : (th_up (th_up (th_up Γ b7 (24, a0)) b15 (25, a0)) b22 (26, a0)) b7 = (24, a0) := (th_up_n ((of_ne of_b7 of_b22 (by decide)))).trans ((th_up_n ((of_ne of_b7 of_b15 (by decide)))).trans (th_up_s))
  have g_b15 : (th_up (th_up (th_up Γ b7 (24, a0)) b15 (25, a0)) b22 (26, a0)) b15 = (25, a0) := (th_up_n ((of_ne of_b15 of_b22 (by decide)))).trans (th_up_s)
  have g_b22 : (th_up (th_up (th_up Γ b7 (24, a0)) b15 (25, a0)) b22 (26, a0)) b22 = (26, a0) := th_up_s
  have nm0 : ¬ th_MR G (th_up (th_up (th_up Γ b7 (24, a0)) b15 (25, a0)) b22 (26, a0)) H29 a0 := fun w => hB.2.2.1 (th_MR_up (show (24 : Nat) ≠ 12 by decide) (th_MR_up (show (25 : Nat) ≠ 12 by decide) (th_MR_up (show (26 : Nat) ≠ 12 by decide) w)))
  have hI2 := th_nmO (r := 23) hI1 ho hsz ro_23 rfl (fun j q hq => by
    match j, hq with
    | 0, hq => have e9 := Option.some.inj hq; subst e9; exact th_sO g_b7
    | 1, hq => have e9 := Option.some.inj hq; subst e9; exact th_sO g_b15
    | 2, hq => have e9 := Option.some.inj hq; subst e9; exact th_sO g_b22
    | 3, hq => have e9 := Option.some.inj hq; subst e9; exact th_sI (x := 0) (by decide) (by decide)
    | n + 4, hq => exact absurd (List.getElem?_eq_some_iff.mp hq).1 (by simp))
  have hR2 := th_RC_up hI1 hR1 (x := (23, 0)) ho.1 nm0 hI2 (fun e => absurd e (by decide)) (fun e => absurd e (by decide)) (by decide)
  have hIN2 := th_IN_up (b := a0) (x := (23, 0)) hIN (ini_f (r := 23) ho rfl rfl rfl (fun j x hm => by
    cases hm) (fun j d hm => by
    rcases List.mem_cons.mp hm with e | hm
    · cases e; exact ⟨by decide, by rw [← of_b7]; rfl⟩
    rcases List.mem_cons.mp hm with e | hm
    · cases e; exact ⟨by decide, by rw [← of_b15]; rfl⟩
    rcases List.mem_cons.mp hm with e | hm
    · cases e; exact ⟨by decide, by rw [← of_b22]; rfl⟩
    cases hm))
  have gq : ∀ q, q < H0.size → q ≠ a0 → (th_up (th_up (th_up (th_up Γ b7 (24, a0)) b15 (25, a0)) b22 (26, a0)) a0 (23, 0)) q = Γ q := fun q h1 h2 => ((((th_up_n h2).trans (th_up_n (by have q9 := lb22; omega))).trans (th_up_n (by have q9 := lb15; omega))).trans (th_up_n (by have q9 := lb7; omega)))
  refine th_vret hC hH hr hlocks hB.1.2.1 ⟨rfl, (th_up (th_up (th_up (th_up Γ b7 (24, a0)) b15 (25, a0)) b22 (26, a0)) a0 (23, 0)), ⟨⟨hI2, (by omega), fun q h1 h2 => ⟨(gq q h1 h2).trans (hB.1.2.2.2.1 q h1 h2), hB.1.2.2.1 q h1 h2⟩⟩, hR2, th_up_s, fun q w => hB.2.2.2 q (th_MR_up (show (24 : Nat) ≠ 12 by decide) (th_MR_up (show (25 : Nat) ≠ 12 by decide) (th_MR_up (show (26 : Nat) ≠ 12 by decide) (th_MR_up (show (23 : Nat) ≠ 12 by decide) w)))), fun q x o hg hq hs => ?_⟩, hIN2, hs⟩ dX6_init_32
  by_cases e_a0 : q = a0
  · rw [e_a0, th_up_s] at hg; cases hg; decide
  rw [th_up_n e_a0] at hg
  by_cases e_b22 : q = b22
  · rw [e_b22, th_up_s] at hg; cases hg; decide
  rw [th_up_n e_b22] at hg
  by_cases e_b15 : q = b15
  · rw [e_b15, th_up_s] at hg; cases hg; decide
  rw [th_up_n e_b15] at hg
  by_cases e_b7 : q = b7
  · rw [e_b7, th_up_s] at hg; cases hg; decide
  rw [th_up_n e_b7] at hg
  exact (show ∀ x ∈ ([] : List Nat), x ∈ [23, 24, 25, 26] by decide) x (hN q x o hg hq hs)

set_option maxHeartbeats 4000000 in
set_option maxRecDepth 100000 in
theorem c_X9_init_i (l : Launch) (G : th_G) (Γ : th_Ga) (H0 : Heap) (hI : th_I G Γ H0) (hR : th_RC G Γ H0) (a0 : Nat) (ho : th_OB G Γ H0 a0 9 2 (fun j => defaultValue (tyX9 j))) (hsz : G.2.2 ≤ a0) (hlt : a0 < H0.size) (hm : ¬ th_MR G Γ H0 a0) (hz1 : H0.size = a0 + 1) : Met l yX9_init (.code yX9_init cX9_init 1 (none) :: th_tb) ({ frames := 1, cells := 1, slots := 400, locals := 12 } : Room) (th_P [.ref a0] G H0) (th_Q (fun (v : Option Value) (H1 : Heap) => v = none ∧ ∃ Γ1 : th_Ga, th_NY G Γ Γ1 a0 37 [37, 38] H0 H1 ∧ th_IN G Γ1 a0 H0 H1 ∧ H1.size = H0.size + 1) G) 1 400 (fun q => G.2.2 ≤ q) := by
  refine th_met RX9 (by decide) rfl (Nat.le_of_ble_eq_true rfl) ?_
  intro p e s m below meth c hC hH hr hlocks hnm ls hl
  have hx := hC.1
  have hb := hC.2.1
  have hB : th_NR G Γ Γ a0 H0 H0 [] := ⟨⟨hI, va_S.rf, fun _ _ _ => rfl, fun _ _ _ => rfl, ho.1, hsz, hlt⟩, hR, hm, fun q w => Or.inl w⟩
  have hl : lv_has ls 1 [(0, .ref a0)] := hl
  have hs : H0.size ≤ H0.size := Nat.le_refl _
  have hN := th_new_0 (a0 := a0) hI ho.1
  have hIN := th_IN_0 (a0 := a0) hI ho.1
  refine lv_aload_n hx hb dX9_init_0 rfl (lv_at hl 0 rfl) ?_
  refine W.objInit hx hb hC.2.2.2.1 (hC.2.2.2.2.1 _ kw_175) (hC.2.2.2.2.1 _ kw_28) (hC.2.2.2.2.1 _ kw_29) rfl (hl.1.trans hC.2.2.1.symm) rfl dX9_init_1 (Nat.le_of_ble_eq_true rfl) (Nat.le_of_ble_eq_true rfl) ?_
  refine W.eq (g2 := F0 m 4 ls []) rfl ?_
  refine lv_aload_n hx hb dX9_init_4 rfl (lv_at hl 0 rfl) ?_
  refine lv_sipush (v := 400) hx hb dX9_init_5 (by decide) ?_
  refine tc_newa (ty := .int) (t := 0) hC hB.1 rfl rfl rfl kw_104 (N := 400) tk_400 (by decide) (Nat.le_of_ble_eq_true rfl) (Nat.le_of_ble_eq_true rfl) dX9_init_8 (fun b8 H8 eb8 zb8 oq8 hB1 k8 => ?_)
  have u8 := k8.2.1
  have of_b8 : b8 = a0 + 1 := by omega
  have n80 : ¬ th_MR G Γ H0 b8 := fun w => absurd (th_MR_lt hB.2.1 w) (by omega)
  have hB := th_NR_s hB hB1 u8 n80 (by omega) oq8
  have hIN := th_IN_s hIN u8 oq8
  have n8 : ¬ th_MR G Γ H8 b8 := fun w => n80 (th_MR_s u8 oq8 w)
  have lb8 : H0.size ≤ b8 := by omega
  have ho := tc_OBo ho oq8 (by omega)
  have hs : H8.size = H0.size + 1 := by omega
  refine tc_putF hC cf_X9 hB.1 ho (j := 0) (by decide) rfl hnm rfl rfl kf_X9_9 dX9_init_10 (fun H10 locs hB1 ho z10 oq10 => ?_)
  have hu := hB.1.2.2.2.2.1
  have hB := th_NR_s hB hB1 hu hB.2.2.1 (by omega) oq10
  have hIN := th_IN_s hIN hu oq10
  have k8x := tm_MAo k8 oq10 (of_n0 of_b8 (by decide))
  have n8x : ¬ th_MR G Γ H10 b8 := fun w => n8 (th_MR_s hu oq10 w)
  have hs : H10.size = H0.size + 1 := by omega
  refine lv_aload_n hx hb dX9_init_13 rfl (lv_at hl 0 rfl) ?_
  refine lv_iconst (v := 0) hx hb dX9_init_14 (by decide) ?_
  refine tc_put hC cf_X9 hB.1 ho (j := 1) (by decide) rfl rfl rfl kf_X9_15 dX9_init_15 (fun H15 locs hB1 ho z15 oq15 => ?_)
  have hu := hB.1.2.2.2.2.1
  have hB := th_NR_s hB hB1 hu hB.2.2.1 (by omega) oq15
  have hIN := th_IN_s hIN hu oq15
  have k8xx := tm_MAo k8x oq15 (of_n0 of_b8 (by decide))
  have n8xx : ¬ th_MR G Γ H15 b8 := fun w => n8x (th_MR_s hu oq15 w)
  have hs : H15.size = H0.size + 1 := by omega
  have hI1 := hB.1.1
  have hR1 := hB.2.1
  have hI2 := th_nmA (r := 38) (o := a0) hI1 k8xx ro_38 (Nat.le_refl _) (Nat.le_refl _) (fun i _ => th_sI (x := 0) (by decide) (by decide))
  have hR1 := th_RC_up hI1 hR1 (x := (38, a0)) k8xx.2.1 n8xx hI2 (fun e => absurd (show (38 : Nat) = 3 from e) (by decide)) (fun e => absurd (show (38 : Nat) = 18 ∨ (38 : Nat) = 19 from e) (by decide)) (show (38 : Nat) ≠ 12 by decide)
  have hI1 := hI2
  have hIN := th_IN_up (b := b8) (x := (38, a0)) hIN (ini_r rfl rfl rfl rfl (fun i hi => th_sl_at k8xx.2.2 (arrV_read _ _ hi)))
  have ho := th_OB_up (b := b8) (x := (38, a0)) ho (by have q9 := lb8; omega)
  have g_b8 : (th_up Γ b8 (38, a0)) b8 = (38, a0) := th_up_s
  have nm0 : ¬ th_MR G (th_up Γ b8 (38, a0)) H15 a0 := fun w => hB.2.2.1 (th_MR_up (show (38 : Nat) ≠ 12 by decide) w)
  have hI2 := th_nmO (r := 37) hI1 ho hsz ro_37 rfl (fun j q hq => by
    match j, hq with
    | 0, hq => have e9 := Option.some.inj hq; subst e9; exact th_sO g_b8
    | 1, hq => have e9 := Option.some.inj hq; subst e9; exact th_sI (x := 0) (by decide) (by decide)
    | n + 2, hq => exact absurd (List.getElem?_eq_some_iff.mp hq).1 (by simp))
  have hR2 := th_RC_up hI1 hR1 (x := (37, 0)) ho.1 nm0 hI2 (fun e => absurd e (by decide)) (fun e => absurd e (by decide)) (by decide)
  have hIN2 := th_IN_up (b := a0) (x := (37, 0)) hIN (ini_f (r := 37) ho rfl rfl rfl (fun j x hm => by
    rcases List.mem_cons.mp hm with e | hm
    · cases e; exact ⟨by decide, rfl⟩
    cases hm) (fun j d hm => by
    rcases List.mem_cons.mp hm with e | hm
    · cases e; exact ⟨by decide, by rw [← of_b8]; rfl⟩
    cases hm))
  have gq : ∀ q, q < H0.size → q ≠ a0 → (th_up (th_up Γ b8 (38, a0)) a0 (37, 0)) q = Γ q := fun q h1 h2 => ((th_up_n h2).trans (th_up_n (by have q9 := lb8; omega)))
  refine th_vret hC hH hr hlocks hB.1.2.1 ⟨rfl, (th_up (th_up Γ b8 (38, a0)) a0 (37, 0)), ⟨⟨hI2, (by omega), fun q h1 h2 => ⟨(gq q h1 h2).trans (hB.1.2.2.2.1 q h1 h2), hB.1.2.2.1 q h1 h2⟩⟩, hR2, th_up_s, fun q w => hB.2.2.2 q (th_MR_up (show (38 : Nat) ≠ 12 by decide) (th_MR_up (show (37 : Nat) ≠ 12 by decide) w)), fun q x o hg hq hs => ?_⟩, hIN2, hs⟩ dX9_init_18
  by_cases e_a0 : q = a0
  · rw [e_a0, th_up_s] at hg; cases hg; decide
  rw [th_up_n e_a0] at hg
  by_cases e_b8 : q = b8
  · rw [e_b8, th_up_s] at hg; cases hg; decide
  rw [th_up_n e_b8] at hg
  exact (show ∀ x ∈ ([] : List Nat), x ∈ [37, 38] by decide) x (hN q x o hg hq hs)

set_option maxHeartbeats 4000000 in
set_option maxRecDepth 100000 in
theorem c_X10_init_i (l : Launch) (G : th_G) (Γ : th_Ga) (H0 : Heap) (hI : th_I G Γ H0) (hR : th_RC G Γ H0) (a0 : Nat) (ho : th_OB G Γ H0 a0 10 4 (fun j => defaultValue (tyX10 j))) (hsz : G.2.2 ≤ a0) (hlt : a0 < H0.size) (hm : ¬ th_MR G Γ H0 a0) (hz1 : H0.size = a0 + 1) : Met l yX10_init (.code yX10_init cX10_init 1 (none) :: th_tb) ({ frames := 1, cells := 2, slots := 496, locals := 12 } : Room) (th_P [.ref a0] G H0) (th_Q (fun (v : Option Value) (H1 : Heap) => v = none ∧ ∃ Γ1 : th_Ga, th_NY G Γ Γ1 a0 39 [39, 40, 41] H0 H1 ∧ th_IN G Γ1 a0 H0 H1 ∧ H1.size = H0.size + 2) G) 2 496 (fun q => G.2.2 ≤ q) := by
  refine th_met RX10 (by decide) rfl (Nat.le_of_ble_eq_true rfl) ?_
  intro p e s m below meth c hC hH hr hlocks hnm ls hl
  have hx := hC.1
  have hb := hC.2.1
  have hB : th_NR G Γ Γ a0 H0 H0 [] := ⟨⟨hI, va_S.rf, fun _ _ _ => rfl, fun _ _ _ => rfl, ho.1, hsz, hlt⟩, hR, hm, fun q w => Or.inl w⟩
  have hl : lv_has ls 1 [(0, .ref a0)] := hl
  have hs : H0.size ≤ H0.size := Nat.le_refl _
  have hN := th_new_0 (a0 := a0) hI ho.1
  have hIN := th_IN_0 (a0 := a0) hI ho.1
  refine lv_aload_n hx hb dX10_init_0 rfl (lv_at hl 0 rfl) ?_
  refine W.objInit hx hb hC.2.2.2.1 (hC.2.2.2.2.1 _ kw_111) (hC.2.2.2.2.1 _ kw_28) (hC.2.2.2.2.1 _ kw_29) rfl (hl.1.trans hC.2.2.1.symm) rfl dX10_init_1 (Nat.le_of_ble_eq_true rfl) (Nat.le_of_ble_eq_true rfl) ?_
  refine W.eq (g2 := F0 m 4 ls []) rfl ?_
  refine lv_aload_n hx hb dX10_init_4 rfl (lv_at hl 0 rfl) ?_
  refine lv_sipush (v := 400) hx hb dX10_init_5 (by decide) ?_
  refine tc_newa (ty := .int) (t := 0) hC hB.1 rfl rfl rfl kw_104 (N := 400) tk_400 (by decide) (Nat.le_of_ble_eq_true rfl) (Nat.le_of_ble_eq_true rfl) dX10_init_8 (fun b8 H8 eb8 zb8 oq8 hB1 k8 => ?_)
  have u8 := k8.2.1
  have of_b8 : b8 = a0 + 1 := by omega
  have n80 : ¬ th_MR G Γ H0 b8 := fun w => absurd (th_MR_lt hB.2.1 w) (by omega)
  have hB := th_NR_s hB hB1 u8 n80 (by omega) oq8
  have hIN := th_IN_s hIN u8 oq8
  have n8 : ¬ th_MR G Γ H8 b8 := fun w => n80 (th_MR_s u8 oq8 w)
  have lb8 : H0.size ≤ b8 := by omega
  have ho := tc_OBo ho oq8 (by omega)
  have hs : H8.size = H0.size + 1 := by omega
  refine tc_putF hC cf_X10 hB.1 ho (j := 0) (by decide) rfl hnm rfl rfl kf_X10_11 dX10_init_10 (fun H10 locs hB1 ho z10 oq10 => ?_)
  have hu := hB.1.2.2.2.2.1
  have hB := th_NR_s hB hB1 hu hB.2.2.1 (by omega) oq10
  have hIN := th_IN_s hIN hu oq10
  have k8x := tm_MAo k8 oq10 (of_n0 of_b8 (by decide))
  have n8x : ¬ th_MR G Γ H10 b8 := fun w => n8 (th_MR_s hu oq10 w)
  have hs : H10.size = H0.size + 1 := by omega
  refine lv_aload_n hx hb dX10_init_13 rfl (lv_at hl 0 rfl) ?_
  refine lv_bipush (v := 96) hx hb dX10_init_14 (by decide) ?_
  refine tc_newa (ty := .int) (t := 0) hC hB.1 rfl rfl rfl kw_104 (N := 96) tk_96 (by decide) (Nat.le_of_ble_eq_true rfl) (Nat.le_of_ble_eq_true rfl) dX10_init_16 (fun b16 H16 eb16 zb16 oq16 hB1 k16 => ?_)
  have u16 := k16.2.1
  have of_b16 : b16 = a0 + 2 := by omega
  have n160 : ¬ th_MR G Γ H10 b16 := fun w => absurd (th_MR_lt hB.2.1 w) (by omega)
  have hB := th_NR_s hB hB1 u16 n160 (by omega) oq16
  have hIN := th_IN_s hIN u16 oq16
  have n16 : ¬ th_MR G Γ H16 b16 := fun w => n160 (th_MR_s u16 oq16 w)
  have lb16 : H0.size ≤ b16 := by omega
  have ho := tc_OBo ho oq16 (by omega)
  have k8xx := tm_MAo k8x oq16 (of_ne of_b8 of_b16 (by decide))
  have n8xx : ¬ th_MR G Γ H16 b8 := fun w => n8x (th_MR_s u16 oq16 w)
  have hs : H16.size = H0.size + 2 := by omega
  refine tc_putF hC cf_X10 hB.1 ho (j := 1) (by decide) rfl hnm rfl rfl kf_X10_15 dX10_init_18 (fun H18 locs hB1 ho z18 oq18 => ?_)
  have hu := hB.1.2.2.2.2.1
  have hB := th_NR_s hB hB1 hu hB.2.2.1 (by omega) oq18
  have hIN := th_IN_s hIN hu oq18
  have k8xxx := tm_MAo k8xx oq18 (of_n0 of_b8 (by decide))
  have n8xxx : ¬ th_MR G Γ H18 b8 := fun w => n8xx (th_MR_s hu oq18 w)
  have k16x := tm_MAo k16 oq18 (of_n0 of_b16 (by decide))
  have n16x : ¬ th_MR G Γ H18 b16 := fun w => n16 (th_MR_s hu oq18 w)
  have hs : H18.size = H0.size + 2 := by omega
  refine lv_aload_n hx hb dX10_init_21 rfl (lv_at hl 0 rfl) ?_
  refine lv_iconst (v := 0) hx hb dX10_init_22 (by decide) ?_
  refine tc_put hC cf_X10 hB.1 ho (j := 2) (by decide) rfl rfl rfl kf_X10_18 dX10_init_23 (fun H23 locs hB1 ho z23 oq23 => ?_)
  have hu := hB.1.2.2.2.2.1
  have hB := th_NR_s hB hB1 hu hB.2.2.1 (by omega) oq23
  have hIN := th_IN_s hIN hu oq23
  have k8xxxx := tm_MAo k8xxx oq23 (of_n0 of_b8 (by decide))
  have n8xxxx : ¬ th_MR G Γ H23 b8 := fun w => n8xxx (th_MR_s hu oq23 w)
  have k16xx := tm_MAo k16x oq23 (of_n0 of_b16 (by decide))
  have n16xx : ¬ th_MR G Γ H23 b16 := fun w => n16x (th_MR_s hu oq23 w)
  have hs : H23.size = H0.size + 2 := by omega
  refine lv_aload_n hx hb dX10_init_26 rfl (lv_at hl 0 rfl) ?_
  refine lv_iconst (v := 0) hx hb dX10_init_27 (by decide) ?_
  refine tc_put hC cf_X10 hB.1 ho (j := 3) (by decide) rfl rfl rfl kf_X10_22 dX10_init_28 (fun H28 locs hB1 ho z28 oq28 => ?_)
  have hu := hB.1.2.2.2.2.1
  have hB := th_NR_s hB hB1 hu hB.2.2.1 (by omega) oq28
  have hIN := th_IN_s hIN hu oq28
  have k8xxxxx := tm_MAo k8xxxx oq28 (of_n0 of_b8 (by decide))
  have n8xxxxx : ¬ th_MR G Γ H28 b8 := fun w => n8xxxx (th_MR_s hu oq28 w)
  have k16xxx := tm_MAo k16xx oq28 (of_n0 of_b16 (by decide))
  have n16xxx : ¬ th_MR G Γ H28 b16 := fun w => n16xx (th_MR_s hu oq28 w)
  have hs : H28.size = H0.size + 2 := by omega
  have hI1 := hB.1.1
  have hR1 := hB.2.1
  have hI2 := th_nmA (r := 40) (o := a0) hI1 k8xxxxx ro_40 (Nat.le_refl _) (Nat.le_refl _) (fun i _ => th_sI (x := 0) (by decide) (by decide))
  have hR1 := th_RC_up hI1 hR1 (x := (40, a0)) k8xxxxx.2.1 n8xxxxx hI2 (fun e => absurd (show (40 : Nat) = 3 from e) (by decide)) (fun e => absurd (show (40 : Nat) = 18 ∨ (40 : Nat) = 19 from e) (by decide)) (show (40 : Nat) ≠ 12 by decide)
  have hI1 := hI2
  have hIN := th_IN_up (b := b8) (x := (40, a0)) hIN (ini_r rfl rfl rfl rfl (fun i hi => th_sl_at k8xxxxx.2.2 (arrV_read _ _ hi)))
  have ho := th_OB_up (b := b8) (x := (40, a0)) ho (by have q9 := lb8; omega)
  have k16xxxu := th_MA_up (b := b8) (x := (40, a0)) k16xxx (fun e => (of_ne of_b8 of_b16 (by decide)) e.symm)
  have n16xxxu : ¬ th_MR G (th_up Γ b8 (40, a0)) H28 b16 := fun w => n16xxx (th_MR_up (show (40 : Nat) ≠ 12 by decide) w)
  have hI2 := th_nmA (r := 41) (o := a0) hI1 k16xxxu ro_41 (Nat.le_refl _) (Nat.le_refl _) (fun i _ => th_esm_st (Or.inr (by decide)))
  have hR1 := th_RC_up hI1 hR1 (x := (41, a0)) k16xxxu.2.1 n16xxxu hI2 (fun e => absurd (show (41 : Nat) = 3 from e) (by decide)) (fun e => absurd (show (41 : Nat) = 18 ∨ (41 : Nat) = 19 from e) (by decide)) (show (41 : Nat) ≠ 12 by decide)
  have hI1 := hI2
  have hIN := th_IN_up (b := b16) (x := (41, a0)) hIN (ini_r rfl rfl rfl rfl (fun i hi => th_sl_at k16xxx.2.2 (arrV_read _ _ hi)))
  have ho := th_OB_up (b := b16) (x := (41, a0)) ho (by have q9 := lb16; omega)
  have g_b8 : (th_up (th_up Γ b8 (40, a0)) b16 (41, a0)) b8 = (40, a0) := (th_up_n ((of_ne of_b8 of_b16 (by decide)))).trans (th_up_s)
  have g_b16 : (th_up (th_up Γ b8 (40, a0)) b16 (41, a0)) b16 = (41, a0) := th_up_s
  have nm0 : ¬ th_MR G (th_up (th_up Γ b8 (40, a0)) b16 (41, a0)) H28 a0 := fun w => hB.2.2.1 (th_MR_up (show (40 : Nat) ≠ 12 by decide) (th_MR_up (show (41 : Nat) ≠ 12 by decide) w))
  have hI2 := th_nmO (r := 39) hI1 ho hsz ro_39 rfl (fun j q hq => by
    match j, hq with
    | 0, hq => have e9 := Option.some.inj hq; subst e9; exact th_sO g_b8
    | 1, hq => have e9 := Option.some.inj hq; subst e9; exact th_sO g_b16
    | 2, hq => have e9 := Option.some.inj hq; subst e9; exact th_sI (x := 0) (by decide) (by decide)
    | 3, hq => have e9 := Option.some.inj hq; subst e9; exact th_sI (x := 0) (by decide) (by decide)
    | n + 4, hq => exact absurd (List.getElem?_eq_some_iff.mp hq).1 (by simp))
  have hR2 := th_RC_up hI1 hR1 (x := (39, 0)) ho.1 nm0 hI2 (fun e => absurd e (by decide)) (fun e => absurd e (by decide)) (by decide)
  have hIN2 := th_IN_up (b := a0) (x := (39, 0)) hIN (ini_f (r := 39) ho rfl rfl rfl (fun j x hm => by
    rcases List.mem_cons.mp hm with e | hm
    · cases e; exact ⟨by decide, rfl⟩
    rcases List.mem_cons.mp hm with e | hm
    · cases e; exact ⟨by decide, rfl⟩
    cases hm) (fun j d hm => by
    rcases List.mem_cons.mp hm with e | hm
    · cases e; exact ⟨by decide, by rw [← of_b8]; rfl⟩
    rcases List.mem_cons.mp hm with e | hm
    · cases e; exact ⟨by decide, by rw [← of_b16]; rfl⟩
    cases hm))
  have gq : ∀ q, q < H0.size → q ≠ a0 → (th_up (th_up (th_up Γ b8 (40, a0)) b16 (41, a0)) a0 (39, 0)) q = Γ q := fun q h1 h2 => (((th_up_n h2).trans (th_up_n (by have q9 := lb16; omega))).trans (th_up_n (by have q9 := lb8; omega)))
  refine th_vret hC hH hr hlocks hB.1.2.1 ⟨rfl, (th_up (th_up (th_up Γ b8 (40, a0)) b16 (41, a0)) a0 (39, 0)), ⟨⟨hI2, (by omega), fun q h1 h2 => ⟨(gq q h1 h2).trans (hB.1.2.2.2.1 q h1 h2), hB.1.2.2.1 q h1 h2⟩⟩, hR2, th_up_s, fun q w => hB.2.2.2 q (th_MR_up (show (40 : Nat) ≠ 12 by decide) (th_MR_up (show (41 : Nat) ≠ 12 by decide) (th_MR_up (show (39 : Nat) ≠ 12 by decide) w))), fun q x o hg hq hs => ?_⟩, hIN2, hs⟩ dX10_init_31
  by_cases e_a0 : q = a0
  · rw [e_a0, th_up_s] at hg; cases hg; decide
  rw [th_up_n e_a0] at hg
  by_cases e_b16 : q = b16
  · rw [e_b16, th_up_s] at hg; cases hg; decide
  rw [th_up_n e_b16] at hg
  by_cases e_b8 : q = b8
  · rw [e_b8, th_up_s] at hg; cases hg; decide
  rw [th_up_n e_b8] at hg
  exact (show ∀ x ∈ ([] : List Nat), x ∈ [39, 40, 41] by decide) x (hN q x o hg hq hs)

set_option maxHeartbeats 4000000 in
set_option maxRecDepth 100000 in
theorem c_X1_init_i (l : Launch) (G : th_G) (Γ : th_Ga) (H0 : Heap) (hI : th_I G Γ H0) (hR : th_RC G Γ H0) (a0 : Nat) (ho : th_OB G Γ H0 a0 1 11 (fun j => defaultValue (tyX1 j))) (hsz : G.2.2 ≤ a0) (hlt : a0 < H0.size) (hm : ¬ th_MR G Γ H0 a0) (hz1 : H0.size = a0 + 1) : Met l yX1_init (.code yX1_init cX1_init 1 (none) :: th_tb) ({ frames := 1, cells := 7, slots := 60, locals := 12 } : Room) (th_P [.ref a0] G H0) (th_Q (fun (v : Option Value) (H1 : Heap) => v = none ∧ ∃ Γ1 : th_Ga, th_NY G Γ Γ1 a0 3 [3, 4, 5, 6, 7, 8, 9, 10] H0 H1 ∧ th_IN G Γ1 a0 H0 H1 ∧ H1.size = H0.size + 7) G) 7 60 (fun q => G.2.2 ≤ q) := by
  refine th_met RX1 (by decide) rfl (Nat.le_of_ble_eq_true rfl) ?_
  intro p e s m below meth c hC hH hr hlocks hnm ls hl
  have hx := hC.1
  have hb := hC.2.1
  have hB : th_NR G Γ Γ a0 H0 H0 [] := ⟨⟨hI, va_S.rf, fun _ _ _ => rfl, fun _ _ _ => rfl, ho.1, hsz, hlt⟩, hR, hm, fun q w => Or.inl w⟩
  have hl : lv_has ls 1 [(0, .ref a0)] := hl
  have hs : H0.size ≤ H0.size := Nat.le_refl _
  have hN := th_new_0 (a0 := a0) hI ho.1
  have hIN := th_IN_0 (a0 := a0) hI ho.1
  refine lv_aload_n hx hb dX1_init_0 rfl (lv_at hl 0 rfl) ?_
  refine W.objInit hx hb hC.2.2.2.1 (hC.2.2.2.2.1 _ kw_41) (hC.2.2.2.2.1 _ kw_28) (hC.2.2.2.2.1 _ kw_29) rfl (hl.1.trans hC.2.2.1.symm) rfl dX1_init_1 (Nat.le_of_ble_eq_true rfl) (Nat.le_of_ble_eq_true rfl) ?_
  refine W.eq (g2 := F0 m 4 ls []) rfl ?_
  refine lv_aload_n hx hb dX1_init_4 rfl (lv_at hl 0 rfl) ?_
  refine lv_bipush (v := 9) hx hb dX1_init_5 (by decide) ?_
  refine tc_newa (ty := .int) (t := 0) hC hB.1 rfl rfl rfl kw_104 (N := 9) tk_9 (by decide) (Nat.le_of_ble_eq_true rfl) (Nat.le_of_ble_eq_true rfl) dX1_init_7 (fun b7 H7 eb7 zb7 oq7 hB1 k7 => ?_)
  have u7 := k7.2.1
  have of_b7 : b7 = a0 + 1 := by omega
  have n70 : ¬ th_MR G Γ H0 b7 := fun w => absurd (th_MR_lt hB.2.1 w) (by omega)
  have hB := th_NR_s hB hB1 u7 n70 (by omega) oq7
  have hIN := th_IN_s hIN u7 oq7
  have n7 : ¬ th_MR G Γ H7 b7 := fun w => n70 (th_MR_s u7 oq7 w)
  have lb7 : H0.size ≤ b7 := by omega
  have ho := tc_OBo ho oq7 (by omega)
  have hs : H7.size = H0.size + 1 := by omega
  refine tc_putF hC cf_X1 hB.1 ho (j := 0) (by decide) rfl hnm rfl rfl kf_X1_9 dX1_init_9 (fun H9 locs hB1 ho z9 oq9 => ?_)
  have hu := hB.1.2.2.2.2.1
  have hB := th_NR_s hB hB1 hu hB.2.2.1 (by omega) oq9
  have hIN := th_IN_s hIN hu oq9
  have k7x := tm_MAo k7 oq9 (of_n0 of_b7 (by decide))
  have n7x : ¬ th_MR G Γ H9 b7 := fun w => n7 (th_MR_s hu oq9 w)
  have hs : H9.size = H0.size + 1 := by omega
  refine lv_aload_n hx hb dX1_init_12 rfl (lv_at hl 0 rfl) ?_
  refine lv_bipush (v := 9) hx hb dX1_init_13 (by decide) ?_
  refine tc_newa (ty := .int) (t := 0) hC hB.1 rfl rfl rfl kw_104 (N := 9) tk_9 (by decide) (Nat.le_of_ble_eq_true rfl) (Nat.le_of_ble_eq_true rfl) dX1_init_15 (fun b15 H15 eb15 zb15 oq15 hB1 k15 => ?_)
  have u15 := k15.2.1
  have of_b15 : b15 = a0 + 2 := by omega
  have n150 : ¬ th_MR G Γ H9 b15 := fun w => absurd (th_MR_lt hB.2.1 w) (by omega)
  have hB := th_NR_s hB hB1 u15 n150 (by omega) oq15
  have hIN := th_IN_s hIN u15 oq15
  have n15 : ¬ th_MR G Γ H15 b15 := fun w => n150 (th_MR_s u15 oq15 w)
  have lb15 : H0.size ≤ b15 := by omega
  have ho := tc_OBo ho oq15 (by omega)
  have k7xx := tm_MAo k7x oq15 (of_ne of_b7 of_b15 (by decide))
  have n7xx : ¬ th_MR G Γ H15 b7 := fun w => n7x (th_MR_s u15 oq15 w)
  have hs : H15.size = H0.size + 2 := by omega
  refine tc_putF hC cf_X1 hB.1 ho (j := 1) (by decide) rfl hnm rfl rfl kf_X1_15 dX1_init_17 (fun H17 locs hB1 ho z17 oq17 => ?_)
  have hu := hB.1.2.2.2.2.1
  have hB := th_NR_s hB hB1 hu hB.2.2.1 (by omega) oq17
  have hIN := th_IN_s hIN hu oq17
  have k7xxx := tm_MAo k7xx oq17 (of_n0 of_b7 (by decide))
  have n7xxx : ¬ th_MR G Γ H17 b7 := fun w => n7xx (th_MR_s hu oq17 w)
  have k15x := tm_MAo k15 oq17 (of_n0 of_b15 (by decide))
  have n15x : ¬ th_MR G Γ H17 b15 := fun w => n15 (th_MR_s hu oq17 w)
  have hs : H17.size = H0.size + 2 := by omega
  refine lv_aload_n hx hb dX1_init_20 rfl (lv_at hl 0 rfl) ?_
  refine lv_bipush (v := 9) hx hb dX1_init_21 (by decide) ?_
  refine tc_newa (ty := .int) (t := 0) hC hB.1 rfl rfl rfl kw_104 (N := 9) tk_9 (by decide) (Nat.le_of_ble_eq_true rfl) (Nat.le_of_ble_eq_true rfl) dX1_init_23 (fun b23 H23 eb23 zb23 oq23 hB1 k23 => ?_)
  have u23 := k23.2.1
  have of_b23 : b23 = a0 + 3 := by omega
  have n230 : ¬ th_MR G Γ H17 b23 := fun w => absurd (th_MR_lt hB.2.1 w) (by omega)
  have hB := th_NR_s hB hB1 u23 n230 (by omega) oq23
  have hIN := th_IN_s hIN u23 oq23
  have n23 : ¬ th_MR G Γ H23 b23 := fun w => n230 (th_MR_s u23 oq23 w)
  have lb23 : H0.size ≤ b23 := by omega
  have ho := tc_OBo ho oq23 (by omega)
  have k7xxxx := tm_MAo k7xxx oq23 (of_ne of_b7 of_b23 (by decide))
  have n7xxxx : ¬ th_MR G Γ H23 b7 := fun w => n7xxx (th_MR_s u23 oq23 w)
  have k15xx := tm_MAo k15x oq23 (of_ne of_b15 of_b23 (by decide))
  have n15xx : ¬ th_MR G Γ H23 b15 := fun w => n15x (th_MR_s u23 oq23 w)
  have hs : H23.size = H0.size + 3 := by omega
  refine tc_putF hC cf_X1 hB.1 ho (j := 2) (by decide) rfl hnm rfl rfl kf_X1_18 dX1_init_25 (fun H25 locs hB1 ho z25 oq25 => ?_)
  have hu := hB.1.2.2.2.2.1
  have hB := th_NR_s hB hB1 hu hB.2.2.1 (by omega) oq25
  have hIN := th_IN_s hIN hu oq25
  have k7xxxxx := tm_MAo k7xxxx oq25 (of_n0 of_b7 (by decide))
  have n7xxxxx : ¬ th_MR G Γ H25 b7 := fun w => n7xxxx (th_MR_s hu oq25 w)
  have k15xxx := tm_MAo k15xx oq25 (of_n0 of_b15 (by decide))
  have n15xxx : ¬ th_MR G Γ H25 b15 := fun w => n15xx (th_MR_s hu oq25 w)
  have k23x := tm_MAo k23 oq25 (of_n0 of_b23 (by decide))
  have n23x : ¬ th_MR G Γ H25 b23 := fun w => n23 (th_MR_s hu oq25 w)
  have hs : H25.size = H0.size + 3 := by omega
  refine lv_aload_n hx hb dX1_init_28 rfl (lv_at hl 0 rfl) ?_
  refine lv_bipush (v := 9) hx hb dX1_init_29 (by decide) ?_
  refine tc_newa (ty := .int) (t := 0) hC hB.1 rfl rfl rfl kw_104 (N := 9) tk_9 (by decide) (Nat.le_of_ble_eq_true rfl) (Nat.le_of_ble_eq_true rfl) dX1_init_31 (fun b31 H31 eb31 zb31 oq31 hB1 k31 => ?_)
  have u31 := k31.2.1
  have of_b31 : b31 = a0 + 4 := by omega
  have n310 : ¬ th_MR G Γ H25 b31 := fun w => absurd (th_MR_lt hB.2.1 w) (by omega)
  have hB := th_NR_s hB hB1 u31 n310 (by omega) oq31
  have hIN := th_IN_s hIN u31 oq31
  have n31 : ¬ th_MR G Γ H31 b31 := fun w => n310 (th_MR_s u31 oq31 w)
  have lb31 : H0.size ≤ b31 := by omega
  have ho := tc_OBo ho oq31 (by omega)
  have k7xxxxxx := tm_MAo k7xxxxx oq31 (of_ne of_b7 of_b31 (by decide))
  have n7xxxxxx : ¬ th_MR G Γ H31 b7 := fun w => n7xxxxx (th_MR_s u31 oq31 w)
  have k15xxxx := tm_MAo k15xxx oq31 (of_ne of_b15 of_b31 (by decide))
  have n15xxxx : ¬ th_MR G Γ H31 b15 := fun w => n15xxx (th_MR_s u31 oq31 w)
  have k23xx := tm_MAo k23x oq31 (of_ne of_b23 of_b31 (by decide))
  have n23xx : ¬ th_MR G Γ H31 b23 := fun w => n23x (th_MR_s u31 oq31 w)
  have hs : H31.size = H0.size + 4 := by omega
  refine tc_putF hC cf_X1 hB.1 ho (j := 3) (by decide) rfl hnm rfl rfl kf_X1_21 dX1_init_33 (fun H33 locs hB1 ho z33 oq33 => ?_)
  have hu := hB.1.2.2.2.2.1
  have hB := th_NR_s hB hB1 hu hB.2.2.1 (by omega) oq33
  have hIN := th_IN_s hIN hu oq33
  have k7xxxxxxx := tm_MAo k7xxxxxx oq33 (of_n0 of_b7 (by decide))
  have n7xxxxxxx : ¬ th_MR G Γ H33 b7 := fun w => n7xxxxxx (th_MR_s hu oq33 w)
  have k15xxxxx := tm_MAo k15xxxx oq33 (of_n0 of_b15 (by decide))
  have n15xxxxx : ¬ th_MR G Γ H33 b15 := fun w => n15xxxx (th_MR_s hu oq33 w)
  have k23xxx := tm_MAo k23xx oq33 (of_n0 of_b23 (by decide))
  have n23xxx : ¬ th_MR G Γ H33 b23 := fun w => n23xx (th_MR_s hu oq33 w)
  have k31x := tm_MAo k31 oq33 (of_n0 of_b31 (by decide))
  have n31x : ¬ th_MR G Γ H33 b31 := fun w => n31 (th_MR_s hu oq33 w)
  have hs : H33.size = H0.size + 4 := by omega
  refine lv_aload_n hx hb dX1_init_36 rfl (lv_at hl 0 rfl) ?_
  refine lv_bipush (v := 9) hx hb dX1_init_37 (by decide) ?_
  refine tc_newa (ty := .int) (t := 0) hC hB.1 rfl rfl rfl kw_104 (N := 9) tk_9 (by decide) (Nat.le_of_ble_eq_true rfl) (Nat.le_of_ble_eq_true rfl) dX1_init_39 (fun b39 H39 eb39 zb39 oq39 hB1 k39 => ?_)
  have u39 := k39.2.1
  have of_b39 : b39 = a0 + 5 := by omega
  have n390 : ¬ th_MR G Γ H33 b39 := fun w => absurd (th_MR_lt hB.2.1 w) (by omega)
  have hB := th_NR_s hB hB1 u39 n390 (by omega) oq39
  have hIN := th_IN_s hIN u39 oq39
  have n39 : ¬ th_MR G Γ H39 b39 := fun w => n390 (th_MR_s u39 oq39 w)
  have lb39 : H0.size ≤ b39 := by omega
  have ho := tc_OBo ho oq39 (by omega)
  have k7xxxxxxxx := tm_MAo k7xxxxxxx oq39 (of_ne of_b7 of_b39 (by decide))
  have n7xxxxxxxx : ¬ th_MR G Γ H39 b7 := fun w => n7xxxxxxx (th_MR_s u39 oq39 w)
  have k15xxxxxx := tm_MAo k15xxxxx oq39 (of_ne of_b15 of_b39 (by decide))
  have n15xxxxxx : ¬ th_MR G Γ H39 b15 := fun w => n15xxxxx (th_MR_s u39 oq39 w)
  have k23xxxx := tm_MAo k23xxx oq39 (of_ne of_b23 of_b39 (by decide))
  have n23xxxx : ¬ th_MR G Γ H39 b23 := fun w => n23xxx (th_MR_s u39 oq39 w)
  have k31xx := tm_MAo k31x oq39 (of_ne of_b31 of_b39 (by decide))
  have n31xx : ¬ th_MR G Γ H39 b31 := fun w => n31x (th_MR_s u39 oq39 w)
  have hs : H39.size = H0.size + 5 := by omega
  refine tc_putF hC cf_X1 hB.1 ho (j := 4) (by decide) rfl hnm rfl rfl kf_X1_24 dX1_init_41 (fun H41 locs hB1 ho z41 oq41 => ?_)
  have hu := hB.1.2.2.2.2.1
  have hB := th_NR_s hB hB1 hu hB.2.2.1 (by omega) oq41
  have hIN := th_IN_s hIN hu oq41
  have k7xxxxxxxxx := tm_MAo k7xxxxxxxx oq41 (of_n0 of_b7 (by decide))
  have n7xxxxxxxxx : ¬ th_MR G Γ H41 b7 := fun w => n7xxxxxxxx (th_MR_s hu oq41 w)
  have k15xxxxxxx := tm_MAo k15xxxxxx oq41 (of_n0 of_b15 (by decide))
  have n15xxxxxxx : ¬ th_MR G Γ H41 b15 := fun w => n15xxxxxx (th_MR_s hu oq41 w)
  have k23xxxxx := tm_MAo k23xxxx oq41 (of_n0 of_b23 (by decide))
  have n23xxxxx : ¬ th_MR G Γ H41 b23 := fun w => n23xxxx (th_MR_s hu oq41 w)
  have k31xxx := tm_MAo k31xx oq41 (of_n0 of_b31 (by decide))
  have n31xxx : ¬ th_MR G Γ H41 b31 := fun w => n31xx (th_MR_s hu oq41 w)
  have k39x := tm_MAo k39 oq41 (of_n0 of_b39 (by decide))
  have n39x : ¬ th_MR G Γ H41 b39 := fun w => n39 (th_MR_s hu oq41 w)
  have hs : H41.size = H0.size + 5 := by omega
  refine lv_aload_n hx hb dX1_init_44 rfl (lv_at hl 0 rfl) ?_
  refine lv_iconst (v := 3) hx hb dX1_init_45 (by decide) ?_
  refine tc_newa (ty := .int) (t := 0) hC hB.1 rfl rfl rfl kw_104 (N := 3) tk_3 (by decide) (Nat.le_of_ble_eq_true rfl) (Nat.le_of_ble_eq_true rfl) dX1_init_46 (fun b46 H46 eb46 zb46 oq46 hB1 k46 => ?_)
  have u46 := k46.2.1
  have of_b46 : b46 = a0 + 6 := by omega
  have n460 : ¬ th_MR G Γ H41 b46 := fun w => absurd (th_MR_lt hB.2.1 w) (by omega)
  have hB := th_NR_s hB hB1 u46 n460 (by omega) oq46
  have hIN := th_IN_s hIN u46 oq46
  have n46 : ¬ th_MR G Γ H46 b46 := fun w => n460 (th_MR_s u46 oq46 w)
  have lb46 : H0.size ≤ b46 := by omega
  have ho := tc_OBo ho oq46 (by omega)
  have k7xxxxxxxxxx := tm_MAo k7xxxxxxxxx oq46 (of_ne of_b7 of_b46 (by decide))
  have n7xxxxxxxxxx : ¬ th_MR G Γ H46 b7 := fun w => n7xxxxxxxxx (th_MR_s u46 oq46 w)
  have k15xxxxxxxx := tm_MAo k15xxxxxxx oq46 (of_ne of_b15 of_b46 (by decide))
  have n15xxxxxxxx : ¬ th_MR G Γ H46 b15 := fun w => n15xxxxxxx (th_MR_s u46 oq46 w)
  have k23xxxxxx := tm_MAo k23xxxxx oq46 (of_ne of_b23 of_b46 (by decide))
  have n23xxxxxx : ¬ th_MR G Γ H46 b23 := fun w => n23xxxxx (th_MR_s u46 oq46 w)
  have k31xxxx := tm_MAo k31xxx oq46 (of_ne of_b31 of_b46 (by decide))
  have n31xxxx : ¬ th_MR G Γ H46 b31 := fun w => n31xxx (th_MR_s u46 oq46 w)
  have k39xx := tm_MAo k39x oq46 (of_ne of_b39 of_b46 (by decide))
  have n39xx : ¬ th_MR G Γ H46 b39 := fun w => n39x (th_MR_s u46 oq46 w)
  have hs : H46.size = H0.size + 6 := by omega
  refine tc_putF hC cf_X1 hB.1 ho (j := 5) (by decide) rfl hnm rfl rfl kf_X1_27 dX1_init_48 (fun H48 locs hB1 ho z48 oq48 => ?_)
  have hu := hB.1.2.2.2.2.1
  have hB := th_NR_s hB hB1 hu hB.2.2.1 (by omega) oq48
  have hIN := th_IN_s hIN hu oq48
  have k7xxxxxxxxxxx := tm_MAo k7xxxxxxxxxx oq48 (of_n0 of_b7 (by decide))
  have n7xxxxxxxxxxx : ¬ th_MR G Γ H48 b7 := fun w => n7xxxxxxxxxx (th_MR_s hu oq48 w)
  have k15xxxxxxxxx := tm_MAo k15xxxxxxxx oq48 (of_n0 of_b15 (by decide))
  have n15xxxxxxxxx : ¬ th_MR G Γ H48 b15 := fun w => n15xxxxxxxx (th_MR_s hu oq48 w)
  have k23xxxxxxx := tm_MAo k23xxxxxx oq48 (of_n0 of_b23 (by decide))
  have n23xxxxxxx : ¬ th_MR G Γ H48 b23 := fun w => n23xxxxxx (th_MR_s hu oq48 w)
  have k31xxxxx := tm_MAo k31xxxx oq48 (of_n0 of_b31 (by decide))
  have n31xxxxx : ¬ th_MR G Γ H48 b31 := fun w => n31xxxx (th_MR_s hu oq48 w)
  have k39xxx := tm_MAo k39xx oq48 (of_n0 of_b39 (by decide))
  have n39xxx : ¬ th_MR G Γ H48 b39 := fun w => n39xx (th_MR_s hu oq48 w)
  have k46x := tm_MAo k46 oq48 (of_n0 of_b46 (by decide))
  have n46x : ¬ th_MR G Γ H48 b46 := fun w => n46 (th_MR_s hu oq48 w)
  have hs : H48.size = H0.size + 6 := by omega
  refine lv_aload_n hx hb dX1_init_51 rfl (lv_at hl 0 rfl) ?_
  refine lv_bipush (v := 12) hx hb dX1_init_52 (by decide) ?_
  refine tc_newa (ty := .int) (t := 0) hC hB.1 rfl rfl rfl kw_104 (N := 12) tk_12 (by decide) (Nat.le_of_ble_eq_true rfl) (Nat.le_of_ble_eq_true rfl) dX1_init_54 (fun b54 H54 eb54 zb54 oq54 hB1 k54 => ?_)
  have u54 := k54.2.1
  have of_b54 : b54 = a0 + 7 := by omega
  have n540 : ¬ th_MR G Γ H48 b54 := fun w => absurd (th_MR_lt hB.2.1 w) (by omega)
  have hB := th_NR_s hB hB1 u54 n540 (by omega) oq54
  have hIN := th_IN_s hIN u54 oq54
  have n54 : ¬ th_MR G Γ H54 b54 := fun w => n540 (th_MR_s u54 oq54 w)
  have lb54 : H0.size ≤ b54 := by omega
  have ho := tc_OBo ho oq54 (by omega)
  have k7xxxxxxxxxxxx := tm_MAo k7xxxxxxxxxxx oq54 (of_ne of_b7 of_b54 (by decide))
  have n7xxxxxxxxxxxx : ¬ th_MR G Γ H54 b7 := fun w => n7xxxxxxxxxxx (th_MR_s u54 oq54 w)
  have k15xxxxxxxxxx := tm_MAo k15xxxxxxxxx oq54 (of_ne of_b15 of_b54 (by decide))
  have n15xxxxxxxxxx : ¬ th_MR G Γ H54 b15 := fun w => n15xxxxxxxxx (th_MR_s u54 oq54 w)
  have k23xxxxxxxx := tm_MAo k23xxxxxxx oq54 (of_ne of_b23 of_b54 (by decide))
  have n23xxxxxxxx : ¬ th_MR G Γ H54 b23 := fun w => n23xxxxxxx (th_MR_s u54 oq54 w)
  have k31xxxxxx := tm_MAo k31xxxxx oq54 (of_ne of_b31 of_b54 (by decide))
  have n31xxxxxx : ¬ th_MR G Γ H54 b31 := fun w => n31xxxxx (th_MR_s u54 oq54 w)
  have k39xxxx := tm_MAo k39xxx oq54 (of_ne of_b39 of_b54 (by decide))
  have n39xxxx : ¬ th_MR G Γ H54 b39 := fun w => n39xxx (th_MR_s u54 oq54 w)
  have k46xx := tm_MAo k46x oq54 (of_ne of_b46 of_b54 (by decide))
  have n46xx : ¬ th_MR G Γ H54 b46 := fun w => n46x (th_MR_s u54 oq54 w)
  have hs : H54.size = H0.size + 7 := by omega
  refine tc_putF hC cf_X1 hB.1 ho (j := 6) (by decide) rfl hnm rfl rfl kf_X1_30 dX1_init_56 (fun H56 locs hB1 ho z56 oq56 => ?_)
  have hu := hB.1.2.2.2.2.1
  have hB := th_NR_s hB hB1 hu hB.2.2.1 (by omega) oq56
  have hIN := th_IN_s hIN hu oq56
  have k7xxxxxxxxxxxxx := tm_MAo k7xxxxxxxxxxxx oq56 (of_n0 of_b7 (by decide))
  have n7xxxxxxxxxxxxx : ¬ th_MR G Γ H56 b7 := fun w => n7xxxxxxxxxxxx (th_MR_s hu oq56 w)
  have k15xxxxxxxxxxx := tm_MAo k15xxxxxxxxxx oq56 (of_n0 of_b15 (by decide))
  have n15xxxxxxxxxxx : ¬ th_MR G Γ H56 b15 := fun w => n15xxxxxxxxxx (th_MR_s hu oq56 w)
  have k23xxxxxxxxx := tm_MAo k23xxxxxxxx oq56 (of_n0 of_b23 (by decide))
  have n23xxxxxxxxx : ¬ th_MR G Γ H56 b23 := fun w => n23xxxxxxxx (th_MR_s hu oq56 w)
  have k31xxxxxxx := tm_MAo k31xxxxxx oq56 (of_n0 of_b31 (by decide))
  have n31xxxxxxx : ¬ th_MR G Γ H56 b31 := fun w => n31xxxxxx (th_MR_s hu oq56 w)
  have k39xxxxx := tm_MAo k39xxxx oq56 (of_n0 of_b39 (by decide))
  have n39xxxxx : ¬ th_MR G Γ H56 b39 := fun w => n39xxxx (th_MR_s hu oq56 w)
  have k46xxx := tm_MAo k46xx oq56 (of_n0 of_b46 (by decide))
  have n46xxx : ¬ th_MR G Γ H56 b46 := fun w => n46xx (th_MR_s hu oq56 w)
  have k54x := tm_MAo k54 oq56 (of_n0 of_b54 (by decide))
  have n54x : ¬ th_MR G Γ H56 b54 := fun w => n54 (th_MR_s hu oq56 w)
  have hs : H56.size = H0.size + 7 := by omega
  refine lv_aload_n hx hb dX1_init_59 rfl (lv_at hl 0 rfl) ?_
  refine lv_iconst (v := 0) hx hb dX1_init_60 (by decide) ?_
  refine tc_put hC cf_X1 hB.1 ho (j := 7) (by decide) rfl rfl rfl kf_X1_33 dX1_init_61 (fun H61 locs hB1 ho z61 oq61 => ?_)
  have hu := hB.1.2.2.2.2.1
  have hB := th_NR_s hB hB1 hu hB.2.2.1 (by omega) oq61
  have hIN := th_IN_s hIN hu oq61
  have k7xxxxxxxxxxxxxx := tm_MAo k7xxxxxxxxxxxxx oq61 (of_n0 of_b7 (by decide))
  have n7xxxxxxxxxxxxxx : ¬ th_MR G Γ H61 b7 := fun w => n7xxxxxxxxxxxxx (th_MR_s hu oq61 w)
  have k15xxxxxxxxxxxx := tm_MAo k15xxxxxxxxxxx oq61 (of_n0 of_b15 (by decide))
  have n15xxxxxxxxxxxx : ¬ th_MR G Γ H61 b15 := fun w => n15xxxxxxxxxxx (th_MR_s hu oq61 w)
  have k23xxxxxxxxxx := tm_MAo k23xxxxxxxxx oq61 (of_n0 of_b23 (by decide))
  have n23xxxxxxxxxx : ¬ th_MR G Γ H61 b23 := fun w => n23xxxxxxxxx (th_MR_s hu oq61 w)
  have k31xxxxxxxx := tm_MAo k31xxxxxxx oq61 (of_n0 of_b31 (by decide))
  have n31xxxxxxxx : ¬ th_MR G Γ H61 b31 := fun w => n31xxxxxxx (th_MR_s hu oq61 w)
  have k39xxxxxx := tm_MAo k39xxxxx oq61 (of_n0 of_b39 (by decide))
  have n39xxxxxx : ¬ th_MR G Γ H61 b39 := fun w => n39xxxxx (th_MR_s hu oq61 w)
  have k46xxxx := tm_MAo k46xxx oq61 (of_n0 of_b46 (by decide))
  have n46xxxx : ¬ th_MR G Γ H61 b46 := fun w => n46xxx (th_MR_s hu oq61 w)
  have k54xx := tm_MAo k54x oq61 (of_n0 of_b54 (by decide))
  have n54xx : ¬ th_MR G Γ H61 b54 := fun w => n54x (th_MR_s hu oq61 w)
  have hs : H61.size = H0.size + 7 := by omega
  refine lv_aload_n hx hb dX1_init_64 rfl (lv_at hl 0 rfl) ?_
  refine lv_bipush (v := 8) hx hb dX1_init_65 (by decide) ?_
  refine tc_put hC cf_X1 hB.1 ho (j := 8) (by decide) rfl rfl rfl kf_X1_37 dX1_init_67 (fun H67 locs hB1 ho z67 oq67 => ?_)
  have hu := hB.1.2.2.2.2.1
  have hB := th_NR_s hB hB1 hu hB.2.2.1 (by omega) oq67
  have hIN := th_IN_s hIN hu oq67
  have k7xxxxxxxxxxxxxxx := tm_MAo k7xxxxxxxxxxxxxx oq67 (of_n0 of_b7 (by decide))
  have n7xxxxxxxxxxxxxxx : ¬ th_MR G Γ H67 b7 := fun w => n7xxxxxxxxxxxxxx (th_MR_s hu oq67 w)
  have k15xxxxxxxxxxxxx := tm_MAo k15xxxxxxxxxxxx oq67 (of_n0 of_b15 (by decide))
  have n15xxxxxxxxxxxxx : ¬ th_MR G Γ H67 b15 := fun w => n15xxxxxxxxxxxx (th_MR_s hu oq67 w)
  have k23xxxxxxxxxxx := tm_MAo k23xxxxxxxxxx oq67 (of_n0 of_b23 (by decide))
  have n23xxxxxxxxxxx : ¬ th_MR G Γ H67 b23 := fun w => n23xxxxxxxxxx (th_MR_s hu oq67 w)
  have k31xxxxxxxxx := tm_MAo k31xxxxxxxx oq67 (of_n0 of_b31 (by decide))
  have n31xxxxxxxxx : ¬ th_MR G Γ H67 b31 := fun w => n31xxxxxxxx (th_MR_s hu oq67 w)
  have k39xxxxxxx := tm_MAo k39xxxxxx oq67 (of_n0 of_b39 (by decide))
  have n39xxxxxxx : ¬ th_MR G Γ H67 b39 := fun w => n39xxxxxx (th_MR_s hu oq67 w)
  have k46xxxxx := tm_MAo k46xxxx oq67 (of_n0 of_b46 (by decide))
  have n46xxxxx : ¬ th_MR G Γ H67 b46 := fun w => n46xxxx (th_MR_s hu oq67 w)
  have k54xxx := tm_MAo k54xx oq67 (of_n0 of_b54 (by decide))
  have n54xxx : ¬ th_MR G Γ H67 b54 := fun w => n54xx (th_MR_s hu oq67 w)
  have hs : H67.size = H0.size + 7 := by omega
  refine lv_aload_n hx hb dX1_init_70 rfl (lv_at hl 0 rfl) ?_
  refine lv_bipush (v := 8) hx hb dX1_init_71 (by decide) ?_
  refine tc_put hC cf_X1 hB.1 ho (j := 9) (by decide) rfl rfl rfl kf_X1_40 dX1_init_73 (fun H73 locs hB1 ho z73 oq73 => ?_)
  have hu := hB.1.2.2.2.2.1
  have hB := th_NR_s hB hB1 hu hB.2.2.1 (by omega) oq73
  have hIN := th_IN_s hIN hu oq73
  have k7xxxxxxxxxxxxxxxx := tm_MAo k7xxxxxxxxxxxxxxx oq73 (of_n0 of_b7 (by decide))
  have n7xxxxxxxxxxxxxxxx : ¬ th_MR G Γ H73 b7 := fun w => n7xxxxxxxxxxxxxxx (th_MR_s hu oq73 w)
  have k15xxxxxxxxxxxxxx := tm_MAo k15xxxxxxxxxxxxx oq73 (of_n0 of_b15 (by decide))
  have n15xxxxxxxxxxxxxx : ¬ th_MR G Γ H73 b15 := fun w => n15xxxxxxxxxxxxx (th_MR_s hu oq73 w)
  have k23xxxxxxxxxxxx := tm_MAo k23xxxxxxxxxxx oq73 (of_n0 of_b23 (by decide))
  have n23xxxxxxxxxxxx : ¬ th_MR G Γ H73 b23 := fun w => n23xxxxxxxxxxx (th_MR_s hu oq73 w)
  have k31xxxxxxxxxx := tm_MAo k31xxxxxxxxx oq73 (of_n0 of_b31 (by decide))
  have n31xxxxxxxxxx : ¬ th_MR G Γ H73 b31 := fun w => n31xxxxxxxxx (th_MR_s hu oq73 w)
  have k39xxxxxxxx := tm_MAo k39xxxxxxx oq73 (of_n0 of_b39 (by decide))
  have n39xxxxxxxx : ¬ th_MR G Γ H73 b39 := fun w => n39xxxxxxx (th_MR_s hu oq73 w)
  have k46xxxxxx := tm_MAo k46xxxxx oq73 (of_n0 of_b46 (by decide))
  have n46xxxxxx : ¬ th_MR G Γ H73 b46 := fun w => n46xxxxx (th_MR_s hu oq73 w)
  have k54xxxx := tm_MAo k54xxx oq73 (of_n0 of_b54 (by decide))
  have n54xxxx : ¬ th_MR G Γ H73 b54 := fun w => n54xxx (th_MR_s hu oq73 w)
  have hs : H73.size = H0.size + 7 := by omega
  refine lv_aload_n hx hb dX1_init_76 rfl (lv_at hl 0 rfl) ?_
  refine lv_iconst (v := 0) hx hb dX1_init_77 (by decide) ?_
  refine tc_put hC cf_X1 hB.1 ho (j := 10) (by decide) rfl rfl rfl kf_X1_43 dX1_init_78 (fun H78 locs hB1 ho z78 oq78 => ?_)
  have hu := hB.1.2.2.2.2.1
  have hB := th_NR_s hB hB1 hu hB.2.2.1 (by omega) oq78
  have hIN := th_IN_s hIN hu oq78
  have k7xxxxxxxxxxxxxxxxx := tm_MAo k7xxxxxxxxxxxxxxxx oq78 (of_n0 of_b7 (by decide))
  have n7xxxxxxxxxxxxxxxxx : ¬ th_MR G Γ H78 b7 := fun w => n7xxxxxxxxxxxxxxxx (th_MR_s hu oq78 w)
  have k15xxxxxxxxxxxxxxx := tm_MAo k15xxxxxxxxxxxxxx oq78 (of_n0 of_b15 (by decide))
  have n15xxxxxxxxxxxxxxx : ¬ th_MR G Γ H78 b15 := fun w => n15xxxxxxxxxxxxxx (th_MR_s hu oq78 w)
  have k23xxxxxxxxxxxxx := tm_MAo k23xxxxxxxxxxxx oq78 (of_n0 of_b23 (by decide))
  have n23xxxxxxxxxxxxx : ¬ th_MR G Γ H78 b23 := fun w => n23xxxxxxxxxxxx (th_MR_s hu oq78 w)
  have k31xxxxxxxxxxx := tm_MAo k31xxxxxxxxxx oq78 (of_n0 of_b31 (by decide))
  have n31xxxxxxxxxxx : ¬ th_MR G Γ H78 b31 := fun w => n31xxxxxxxxxx (th_MR_s hu oq78 w)
  have k39xxxxxxxxx := tm_MAo k39xxxxxxxx oq78 (of_n0 of_b39 (by decide))
  have n39xxxxxxxxx : ¬ th_MR G Γ H78 b39 := fun w => n39xxxxxxxx (th_MR_s hu oq78 w)
  have k46xxxxxxx := tm_MAo k46xxxxxx oq78 (of_n0 of_b46 (by decide))
  have n46xxxxxxx : ¬ th_MR G Γ H78 b46 := fun w => n46xxxxxx (th_MR_s hu oq78 w)
  have k54xxxxx := tm_MAo k54xxxx oq78 (of_n0 of_b54 (by decide))
  have n54xxxxx : ¬ th_MR G Γ H78 b54 := fun w => n54xxxx (th_MR_s hu oq78 w)
  have hs : H78.size = H0.size + 7 := by omega
  refine lv_aload_n hx hb dX1_init_81 rfl (lv_at hl 0 rfl) ?_
  refine tc_get hC cf_X1 ho (j := 5) (by decide) rfl kf_X1_27 dX1_init_82 ?_
  refine lv_iconst (v := 1) hx hb dX1_init_85 (by decide) ?_
  refine lv_iconst (v := 1) hx hb dX1_init_86 (by decide) ?_
  refine tc_iast (x := 1) hC hB.1 k46xxxxxxx lb46 tk_1 (by decide) (by decide) dX1_init_87 (fun H87 locs hB1 kq z87 oq87 => ?_)
  have hq := k46xxxxxxx.2.1
  have hB := th_NR_s hB hB1 hq n46xxxxxxx (by omega) oq87
  have hIN := th_IN_s hIN hq oq87
  have n46xxxxxxxx : ¬ th_MR G Γ H87 b46 := fun w => n46xxxxxxx (th_MR_s hq oq87 w)
  have ho := tc_OBo ho oq87 (by have q9 := lb46; omega)
  have k7xxxxxxxxxxxxxxxxxx := tm_MAo k7xxxxxxxxxxxxxxxxx oq87 (fun e => (of_ne of_b7 of_b46 (by decide)) e)
  have n7xxxxxxxxxxxxxxxxxx : ¬ th_MR G Γ H87 b7 := fun w => n7xxxxxxxxxxxxxxxxx (th_MR_s hq oq87 w)
  have k15xxxxxxxxxxxxxxxx := tm_MAo k15xxxxxxxxxxxxxxx oq87 (fun e => (of_ne of_b15 of_b46 (by decide)) e)
  have n15xxxxxxxxxxxxxxxx : ¬ th_MR G Γ H87 b15 := fun w => n15xxxxxxxxxxxxxxx (th_MR_s hq oq87 w)
  have k23xxxxxxxxxxxxxx := tm_MAo k23xxxxxxxxxxxxx oq87 (fun e => (of_ne of_b23 of_b46 (by decide)) e)
  have n23xxxxxxxxxxxxxx : ¬ th_MR G Γ H87 b23 := fun w => n23xxxxxxxxxxxxx (th_MR_s hq oq87 w)
  have k31xxxxxxxxxxxx := tm_MAo k31xxxxxxxxxxx oq87 (fun e => (of_ne of_b31 of_b46 (by decide)) e)
  have n31xxxxxxxxxxxx : ¬ th_MR G Γ H87 b31 := fun w => n31xxxxxxxxxxx (th_MR_s hq oq87 w)
  have k39xxxxxxxxxx := tm_MAo k39xxxxxxxxx oq87 (fun e => (of_ne of_b39 of_b46 (by decide)) e)
  have n39xxxxxxxxxx : ¬ th_MR G Γ H87 b39 := fun w => n39xxxxxxxxx (th_MR_s hq oq87 w)
  have k54xxxxxx := tm_MAo k54xxxxx oq87 (fun e => (of_ne of_b46 of_b54 (by decide)) e.symm)
  have n54xxxxxx : ¬ th_MR G Γ H87 b54 := fun w => n54xxxxx (th_MR_s hq oq87 w)
  have kz87 := kq
  have hs : H87.size = H0.size + 7 := by omega
  have hI1 := hB.1.1
  have hR1 := hB.2.1
  have hI2 := th_nmA (r := 4) (o := a0) hI1 k7xxxxxxxxxxxxxxxxxx ro_4 (Nat.le_refl _) (Nat.le_refl _) (fun i _ => th_sI (x := 0) (by decide) (by decide))
  have hR1 := th_RC_up hI1 hR1 (x := (4, a0)) k7xxxxxxxxxxxxxxxxxx.2.1 n7xxxxxxxxxxxxxxxxxx hI2 (fun e => absurd (show (4 : Nat) = 3 from e) (by decide)) (fun e => absurd (show (4 : Nat) = 18 ∨ (4 : Nat) = 19 from e) (by decide)) (show (4 : Nat) ≠ 12 by decide)
  have hI1 := hI2
  have hIN := th_IN_up (b := b7) (x := (4, a0)) hIN (ini_r rfl rfl rfl rfl (fun i hi => th_sl_at k7xxxxxxxxxxxxxxxxxx.2.2 (arrV_read _ _ hi)))
  have ho := th_OB_up (b := b7) (x := (4, a0)) ho (by have q9 := lb7; omega)
  have k15xxxxxxxxxxxxxxxxu := th_MA_up (b := b7) (x := (4, a0)) k15xxxxxxxxxxxxxxxx (fun e => (of_ne of_b7 of_b15 (by decide)) e.symm)
  have n15xxxxxxxxxxxxxxxxu : ¬ th_MR G (th_up Γ b7 (4, a0)) H87 b15 := fun w => n15xxxxxxxxxxxxxxxx (th_MR_up (show (4 : Nat) ≠ 12 by decide) w)
  have k23xxxxxxxxxxxxxxu := th_MA_up (b := b7) (x := (4, a0)) k23xxxxxxxxxxxxxx (fun e => (of_ne of_b7 of_b23 (by decide)) e.symm)
  have n23xxxxxxxxxxxxxxu : ¬ th_MR G (th_up Γ b7 (4, a0)) H87 b23 := fun w => n23xxxxxxxxxxxxxx (th_MR_up (show (4 : Nat) ≠ 12 by decide) w)
  have k31xxxxxxxxxxxxu := th_MA_up (b := b7) (x := (4, a0)) k31xxxxxxxxxxxx (fun e => (of_ne of_b7 of_b31 (by decide)) e.symm)
  have n31xxxxxxxxxxxxu : ¬ th_MR G (th_up Γ b7 (4, a0)) H87 b31 := fun w => n31xxxxxxxxxxxx (th_MR_up (show (4 : Nat) ≠ 12 by decide) w)
  have k39xxxxxxxxxxu := th_MA_up (b := b7) (x := (4, a0)) k39xxxxxxxxxx (fun e => (of_ne of_b7 of_b39 (by decide)) e.symm)
  have n39xxxxxxxxxxu : ¬ th_MR G (th_up Γ b7 (4, a0)) H87 b39 := fun w => n39xxxxxxxxxx (th_MR_up (show (4 : Nat) ≠ 12 by decide) w)
  have kz87u := th_MA_up (b := b7) (x := (4, a0)) kz87 (fun e => (of_ne of_b7 of_b46 (by decide)) e.symm)
  have n46xxxxxxxxu : ¬ th_MR G (th_up Γ b7 (4, a0)) H87 b46 := fun w => n46xxxxxxxx (th_MR_up (show (4 : Nat) ≠ 12 by decide) w)
  have k54xxxxxxu := th_MA_up (b := b7) (x := (4, a0)) k54xxxxxx (fun e => (of_ne of_b7 of_b54 (by decide)) e.symm)
  have n54xxxxxxu : ¬ th_MR G (th_up Γ b7 (4, a0)) H87 b54 := fun w => n54xxxxxx (th_MR_up (show (4 : Nat) ≠ 12 by decide) w)
  have hI2 := th_nmA (r := 5) (o := a0) hI1 k15xxxxxxxxxxxxxxxxu ro_5 (Nat.le_refl _) (Nat.le_refl _) (fun i _ => th_sI (x := 0) (by decide) (by decide))
  have hR1 := th_RC_up hI1 hR1 (x := (5, a0)) k15xxxxxxxxxxxxxxxxu.2.1 n15xxxxxxxxxxxxxxxxu hI2 (fun e => absurd (show (5 : Nat) = 3 from e) (by decide)) (fun e => absurd (show (5 : Nat) = 18 ∨ (5 : Nat) = 19 from e) (by decide)) (show (5 : Nat) ≠ 12 by decide)
  have hI1 := hI2
  have hIN := th_IN_up (b := b15) (x := (5, a0)) hIN (ini_r rfl rfl rfl rfl (fun i hi => th_sl_at k15xxxxxxxxxxxxxxxx.2.2 (arrV_read _ _ hi)))
  have ho := th_OB_up (b := b15) (x := (5, a0)) ho (by have q9 := lb15; omega)
  have k23xxxxxxxxxxxxxxuu := th_MA_up (b := b15) (x := (5, a0)) k23xxxxxxxxxxxxxxu (fun e => (of_ne of_b15 of_b23 (by decide)) e.symm)
  have n23xxxxxxxxxxxxxxuu : ¬ th_MR G (th_up (th_up Γ b7 (4, a0)) b15 (5, a0)) H87 b23 := fun w => n23xxxxxxxxxxxxxxu (th_MR_up (show (5 : Nat) ≠ 12 by decide) w)
  have k31xxxxxxxxxxxxuu := th_MA_up (b := b15) (x := (5, a0)) k31xxxxxxxxxxxxu (fun e => (of_ne of_b15 of_b31 (by decide)) e.symm)
  have n31xxxxxxxxxxxxuu : ¬ th_MR G (th_up (th_up Γ b7 (4, a0)) b15 (5, a0)) H87 b31 := fun w => n31xxxxxxxxxxxxu (th_MR_up (show (5 : Nat) ≠ 12 by decide) w)
  have k39xxxxxxxxxxuu := th_MA_up (b := b15) (x := (5, a0)) k39xxxxxxxxxxu (fun e => (of_ne of_b15 of_b39 (by decide)) e.symm)
  have n39xxxxxxxxxxuu : ¬ th_MR G (th_up (th_up Γ b7 (4, a0)) b15 (5, a0)) H87 b39 := fun w => n39xxxxxxxxxxu (th_MR_up (show (5 : Nat) ≠ 12 by decide) w)
  have kz87uu := th_MA_up (b := b15) (x := (5, a0)) kz87u (fun e => (of_ne of_b15 of_b46 (by decide)) e.symm)
  have n46xxxxxxxxuu : ¬ th_MR G (th_up (th_up Γ b7 (4, a0)) b15 (5, a0)) H87 b46 := fun w => n46xxxxxxxxu (th_MR_up (show (5 : Nat) ≠ 12 by decide) w)
  have k54xxxxxxuu := th_MA_up (b := b15) (x := (5, a0)) k54xxxxxxu (fun e => (of_ne of_b15 of_b54 (by decide)) e.symm)
  have n54xxxxxxuu : ¬ th_MR G (th_up (th_up Γ b7 (4, a0)) b15 (5, a0)) H87 b54 := fun w => n54xxxxxxu (th_MR_up (show (5 : Nat) ≠ 12 by decide) w)
  have hI2 := th_nmA (r := 6) (o := a0) hI1 k23xxxxxxxxxxxxxxuu ro_6 (Nat.le_refl _) (Nat.le_refl _) (fun i _ => th_sI (x := 0) (by decide) (by decide))
  have hR1 := th_RC_up hI1 hR1 (x := (6, a0)) k23xxxxxxxxxxxxxxuu.2.1 n23xxxxxxxxxxxxxxuu hI2 (fun e => absurd (show (6 : Nat) = 3 from e) (by decide)) (fun e => absurd (show (6 : Nat) = 18 ∨ (6 : Nat) = 19 from e) (by decide)) (show (6 : Nat) ≠ 12 by decide)
  have hI1 := hI2
  have hIN := th_IN_up (b := b23) (x := (6, a0)) hIN (ini_r rfl rfl rfl rfl (fun i hi => th_sl_at k23xxxxxxxxxxxxxx.2.2 (arrV_read _ _ hi)))
  have ho := th_OB_up (b := b23) (x := (6, a0)) ho (by have q9 := lb23; omega)
  have k31xxxxxxxxxxxxuuu := th_MA_up (b := b23) (x := (6, a0)) k31xxxxxxxxxxxxuu (fun e => (of_ne of_b23 of_b31 (by decide)) e.symm)
  have n31xxxxxxxxxxxxuuu : ¬ th_MR G (th_up (th_up (th_up Γ b7 (4, a0)) b15 (5, a0)) b23 (6, a0)) H87 b31 := fun w => n31xxxxxxxxxxxxuu (th_MR_up (show (6 : Nat) ≠ 12 by decide) w)
  have k39xxxxxxxxxxuuu := th_MA_up (b := b23) (x := (6, a0)) k39xxxxxxxxxxuu (fun e => (of_ne of_b23 of_b39 (by decide)) e.symm)
  have n39xxxxxxxxxxuuu : ¬ th_MR G (th_up (th_up (th_up Γ b7 (4, a0)) b15 (5, a0)) b23 (6, a0)) H87 b39 := fun w => n39xxxxxxxxxxuu (th_MR_up (show (6 : Nat) ≠ 12 by decide) w)
  have kz87uuu := th_MA_up (b := b23) (x := (6, a0)) kz87uu (fun e => (of_ne of_b23 of_b46 (by decide)) e.symm)
  have n46xxxxxxxxuuu : ¬ th_MR G (th_up (th_up (th_up Γ b7 (4, a0)) b15 (5, a0)) b23 (6, a0)) H87 b46 := fun w => n46xxxxxxxxuu (th_MR_up (show (6 : Nat) ≠ 12 by decide) w)
  have k54xxxxxxuuu := th_MA_up (b := b23) (x := (6, a0)) k54xxxxxxuu (fun e => (of_ne of_b23 of_b54 (by decide)) e.symm)
  have n54xxxxxxuuu : ¬ th_MR G (th_up (th_up (th_up Γ b7 (4, a0)) b15 (5, a0)) b23 (6, a0)) H87 b54 := fun w => n54xxxxxxuu (th_MR_up (show (6 : Nat) ≠ 12 by decide) w)
  have hI2 := th_nmA (r := 7) (o := a0) hI1 k31xxxxxxxxxxxxuuu ro_7 (Nat.le_refl _) (Nat.le_refl _) (fun i _ => th_sI (x := 0) (by decide) (by decide))
  have hR1 := th_RC_up hI1 hR1 (x := (7, a0)) k31xxxxxxxxxxxxuuu.2.1 n31xxxxxxxxxxxxuuu hI2 (fun e => absurd (show (7 : Nat) = 3 from e) (by decide)) (fun e => absurd (show (7 : Nat) = 18 ∨ (7 : Nat) = 19 from e) (by decide)) (show (7 : Nat) ≠ 12 by decide)
  have hI1 := hI2
  have hIN := th_IN_up (b := b31) (x := (7, a0)) hIN (ini_r rfl rfl rfl rfl (fun i hi => th_sl_at k31xxxxxxxxxxxx.2.2 (arrV_read _ _ hi)))
  have ho := th_OB_up (b := b31) (x := (7, a0)) ho (by have q9 := lb31; omega)
  have k39xxxxxxxxxxuuuu := th_MA_up (b := b31) (x := (7, a0)) k39xxxxxxxxxxuuu (fun e => (of_ne of_b31 of_b39 (by decide)) e.symm)
  have n39xxxxxxxxxxuuuu : ¬ th_MR G (th_up (th_up (th_up (th_up Γ b7 (4, a0)) b15 (5, a0)) b23 (6, a0)) b31 (7, a0)) H87 b39 := fun w => n39xxxxxxxxxxuuu (th_MR_up (show (7 : Nat) ≠ 12 by decide) w)
  have kz87uuuu := th_MA_up (b := b31) (x := (7, a0)) kz87uuu (fun e => (of_ne of_b31 of_b46 (by decide)) e.symm)
  have n46xxxxxxxxuuuu : ¬ th_MR G (th_up (th_up (th_up (th_up Γ b7 (4, a0)) b15 (5, a0)) b23 (6, a0)) b31 (7, a0)) H87 b46 := fun w => n46xxxxxxxxuuu (th_MR_up (show (7 : Nat) ≠ 12 by decide) w)
  have k54xxxxxxuuuu := th_MA_up (b := b31) (x := (7, a0)) k54xxxxxxuuu (fun e => (of_ne of_b31 of_b54 (by decide)) e.symm)
  have n54xxxxxxuuuu : ¬ th_MR G (th_up (th_up (th_up (th_up Γ b7 (4, a0)) b15 (5, a0)) b23 (6, a0)) b31 (7, a0)) H87 b54 := fun w => n54xxxxxxuuu (th_MR_up (show (7 : Nat) ≠ 12 by decide) w)
  have hI2 := th_nmA (r := 8) (o := a0) hI1 k39xxxxxxxxxxuuuu ro_8 (Nat.le_refl _) (Nat.le_refl _) (fun i _ => th_sI (x := 0) (by decide) (by decide))
  have hR1 := th_RC_up hI1 hR1 (x := (8, a0)) k39xxxxxxxxxxuuuu.2.1 n39xxxxxxxxxxuuuu hI2 (fun e => absurd (show (8 : Nat) = 3 from e) (by decide)) (fun e => absurd (show (8 : Nat) = 18 ∨ (8 : Nat) = 19 from e) (by decide)) (show (8 : Nat) ≠ 12 by decide)
  have hI1 := hI2
  have hIN := th_IN_up (b := b39) (x := (8, a0)) hIN (ini_r rfl rfl rfl rfl (fun i hi => th_sl_at k39xxxxxxxxxx.2.2 (arrV_read _ _ hi)))
  have ho := th_OB_up (b := b39) (x := (8, a0)) ho (by have q9 := lb39; omega)
  have kz87uuuuu := th_MA_up (b := b39) (x := (8, a0)) kz87uuuu (fun e => (of_ne of_b39 of_b46 (by decide)) e.symm)
  have n46xxxxxxxxuuuuu : ¬ th_MR G (th_up (th_up (th_up (th_up (th_up Γ b7 (4, a0)) b15 (5, a0)) b23 (6, a0)) b31 (7, a0)) b39 (8, a0)) H87 b46 := fun w => n46xxxxxxxxuuuu (th_MR_up (show (8 : Nat) ≠ 12 by decide) w)
  have k54xxxxxxuuuuu := th_MA_up (b := b39) (x := (8, a0)) k54xxxxxxuuuu (fun e => (of_ne of_b39 of_b54 (by decide)) e.symm)
  have n54xxxxxxuuuuu : ¬ th_MR G (th_up (th_up (th_up (th_up (th_up Γ b7 (4, a0)) b15 (5, a0)) b23 (6, a0)) b31 (7, a0)) b39 (8, a0)) H87 b54 := fun w => n54xxxxxxuuuu (th_MR_up (show (8 : Nat) ≠ 12 by decide) w)
  have hI2 := th_nmA (r := 9) (o := a0) hI1 kz87uuuuu ro_9 (Nat.le_refl _) (Nat.le_refl _) (fun i _ => by unfold updV; (repeat' split) <;> exact th_sIa)
  have hR1 := th_RC_up hI1 hR1 (x := (9, a0)) kz87uuuuu.2.1 n46xxxxxxxxuuuuu hI2 (fun e => absurd (show (9 : Nat) = 3 from e) (by decide)) (fun e => absurd (show (9 : Nat) = 18 ∨ (9 : Nat) = 19 from e) (by decide)) (show (9 : Nat) ≠ 12 by decide)
  have hI1 := hI2
  have hIN := th_IN_up (b := b46) (x := (9, a0)) hIN (ini_r rfl rfl rfl rfl (fun i hi => (th_sl_at kz87.2.2 (arrV_read _ _ hi)).trans (by match i, hi with
    | 0, _ => rfl
    | 1, _ => rfl
    | 2, _ => rfl
    | n + 3, h => exact absurd h (by omega))))
  have ho := th_OB_up (b := b46) (x := (9, a0)) ho (by have q9 := lb46; omega)
  have k54xxxxxxuuuuuu := th_MA_up (b := b46) (x := (9, a0)) k54xxxxxxuuuuu (fun e => (of_ne of_b46 of_b54 (by decide)) e.symm)
  have n54xxxxxxuuuuuu : ¬ th_MR G (th_up (th_up (th_up (th_up (th_up (th_up Γ b7 (4, a0)) b15 (5, a0)) b23 (6, a0)) b31 (7, a0)) b39 (8, a0)) b46 (9, a0)) H87 b54 := fun w => n54xxxxxxuuuuu (th_MR_up (show (9 : Nat) ≠ 12 by decide) w)
  have hI2 := th_nmA (r := 10) (o := a0) hI1 k54xxxxxxuuuuuu ro_10 (Nat.le_refl _) (Nat.le_refl _) (fun i _ => th_sI (x := 0) (by decide) (by decide))
  have hR1 := th_RC_up hI1 hR1 (x := (10, a0)) k54xxxxxxuuuuuu.2.1 n54xxxxxxuuuuuu hI2 (fun e => absurd (show (10 : Nat) = 3 from e) (by decide)) (fun e => absurd (show (10 : Nat) = 18 ∨ (10 : Nat) = 19 from e) (by decide)) (show (10 : Nat) ≠ 12 by decide)
  have hI1 := hI2
  have hIN := th_IN_up (b := b54) (x := (10, a0)) hIN (ini_r rfl rfl rfl rfl (fun i hi => th_sl_at k54xxxxxx.2.2 (arrV_read _ _ hi)))
  have ho := th_OB_up (b := b54) (x := (10, a0)) ho (by have q9 := lb54; omega)
  have g_b7 : (th_up (th_up (th_up (th_up (th_up (th_up (th_up Γ b7 (4, a0)) b15 (5, a0)) b23 (6, a0)) b31 (7, a0)) b39 (8, a0)) b46 (9, a0)) b54 (10, a0)) b7 = (4, a0) := (th_up_n ((of_ne of_b7 of_b54 (by decide)))).trans ((th_up_n ((of_ne of_b7 of_b46 (by decide)))).trans ((th_up_n ((of_ne of_b7 of_b39 (by decide)))).trans ((th_up_n ((of_ne of_b7 of_b31 (by decide)))).trans ((th_up_n ((of_ne of_b7 of_b23 (by decide)))).trans ((th_up_n ((of_ne of_b7 of_b15 (by decide)))).trans (th_up_s))))))
  have g_b15 : (th_up (th_up (th_up (th_up (th_up (th_up (th_up Γ b7 (4, a0)) b15 (5, a0)) b23 (6, a0)) b31 (7, a0)) b39 (8, a0)) b46 (9, a0)) b54 (10, a0)) b15 = (5, a0) := (th_up_n ((of_ne of_b15 of_b54 (by decide)))).trans ((th_up_n ((of_ne of_b15 of_b46 (by decide)))).trans ((th_up_n ((of_ne of_b15 of_b39 (by decide)))).trans ((th_up_n ((of_ne of_b15 of_b31 (by decide)))).trans ((th_up_n ((of_ne of_b15 of_b23 (by decide)))).trans (th_up_s)))))
  have g_b23 : (th_up (th_up (th_up (th_up (th_up (th_up (th_up Γ b7 (4, a0)) b15 (5, a0)) b23 (6, a0)) b31 (7, a0)) b39 (8, a0)) b46 (9, a0)) b54 (10, a0)) b23 = (6, a0) := (th_up_n ((of_ne of_b23 of_b54 (by decide)))).trans ((th_up_n ((of_ne of_b23 of_b46 (by decide)))).trans ((th_up_n ((of_ne of_b23 of_b39 (by decide)))).trans ((th_up_n ((of_ne of_b23 of_b31 (by decide)))).trans (th_up_s))))
  have g_b31 : (th_up (th_up (th_up (th_up (th_up (th_up (th_up Γ b7 (4, a0)) b15 (5, a0)) b23 (6, a0)) b31 (7, a0)) b39 (8, a0)) b46 (9, a0)) b54 (10, a0)) b31 = (7, a0) := (th_up_n ((of_ne of_b31 of_b54 (by decide)))).trans ((th_up_n ((of_ne of_b31 of_b46 (by decide)))).trans ((th_up_n ((of_ne of_b31 of_b39 (by decide)))).trans (th_up_s)))
  have g_b39 : (th_up (th_up (th_up (th_up (th_up (th_up (th_up Γ b7 (4, a0)) b15 (5, a0)) b23 (6, a0)) b31 (7, a0)) b39 (8, a0)) b46 (9, a0)) b54 (10, a0)) b39 = (8, a0) := (th_up_n ((of_ne of_b39 of_b54 (by decide)))).trans ((th_up_n ((of_ne of_b39 of_b46 (by decide)))).trans (th_up_s))
  have g_b46 : (th_up (th_up (th_up (th_up (th_up (th_up (th_up Γ b7 (4, a0)) b15 (5, a0)) b23 (6, a0)) b31 (7, a0)) b39 (8, a0)) b46 (9, a0)) b54 (10, a0)) b46 = (9, a0) := (th_up_n ((of_ne of_b46 of_b54 (by decide)))).trans (th_up_s)
  have g_b54 : (th_up (th_up (th_up (th_up (th_up (th_up (th_up Γ b7 (4, a0)) b15 (5, a0)) b23 (6, a0)) b31 (7, a0)) b39 (8, a0)) b46 (9, a0)) b54 (10, a0)) b54 = (10, a0) := th_up_s
  have nm0 : ¬ th_MR G (th_up (th_up (th_up (th_up (th_up (th_up (th_up Γ b7 (4, a0)) b15 (5, a0)) b23 (6, a0)) b31 (7, a0)) b39 (8, a0)) b46 (9, a0)) b54 (10, a0)) H87 a0 := fun w => hB.2.2.1 (th_MR_up (show (4 : Nat) ≠ 12 by decide) (th_MR_up (show (5 : Nat) ≠ 12 by decide) (th_MR_up (show (6 : Nat) ≠ 12 by decide) (th_MR_up (show (7 : Nat) ≠ 12 by decide) (th_MR_up (show (8 : Nat) ≠ 12 by decide) (th_MR_up (show (9 : Nat) ≠ 12 by decide) (th_MR_up (show (10 : Nat) ≠ 12 by decide) w)))))))
  have hI2 := th_nmO (r := 3) hI1 ho hsz ro_3 rfl (fun j q hq => by
    match j, hq with
    | 0, hq => have e9 := Option.some.inj hq; subst e9; exact th_sO g_b7
    | 1, hq => have e9 := Option.some.inj hq; subst e9; exact th_sO g_b15
    | 2, hq => have e9 := Option.some.inj hq; subst e9; exact th_sO g_b23
    | 3, hq => have e9 := Option.some.inj hq; subst e9; exact th_sO g_b31
    | 4, hq => have e9 := Option.some.inj hq; subst e9; exact th_sO g_b39
    | 5, hq => have e9 := Option.some.inj hq; subst e9; exact th_sO g_b46
    | 6, hq => have e9 := Option.some.inj hq; subst e9; exact th_sO g_b54
    | 7, hq => have e9 := Option.some.inj hq; subst e9; exact th_sI (x := 0) (by decide) (by decide)
    | 8, hq => have e9 := Option.some.inj hq; subst e9; exact th_sI (x := 8) (by decide) (by decide)
    | 9, hq => have e9 := Option.some.inj hq; subst e9; exact th_sI (x := 8) (by decide) (by decide)
    | 10, hq => have e9 := Option.some.inj hq; subst e9; exact th_sI (x := 0) (by decide) (by decide)
    | n + 11, hq => exact absurd (List.getElem?_eq_some_iff.mp hq).1 (by simp))
  have hR2 := th_RC_up hI1 hR1 (x := (3, 0)) ho.1 nm0 hI2 (fun _ => tc_XY ho rfl k39xxxxxxxxxxuuuu.2.2) (fun e => absurd e (by decide)) (by decide)
  have hIN2 := th_IN_up (b := a0) (x := (3, 0)) hIN (ini_f (r := 3) ho rfl rfl rfl (fun j x hm => by
    rcases List.mem_cons.mp hm with e | hm
    · cases e; exact ⟨by decide, rfl⟩
    rcases List.mem_cons.mp hm with e | hm
    · cases e; exact ⟨by decide, rfl⟩
    rcases List.mem_cons.mp hm with e | hm
    · cases e; exact ⟨by decide, rfl⟩
    rcases List.mem_cons.mp hm with e | hm
    · cases e; exact ⟨by decide, rfl⟩
    cases hm) (fun j d hm => by
    rcases List.mem_cons.mp hm with e | hm
    · cases e; exact ⟨by decide, by rw [← of_b7]; rfl⟩
    rcases List.mem_cons.mp hm with e | hm
    · cases e; exact ⟨by decide, by rw [← of_b15]; rfl⟩
    rcases List.mem_cons.mp hm with e | hm
    · cases e; exact ⟨by decide, by rw [← of_b23]; rfl⟩
    rcases List.mem_cons.mp hm with e | hm
    · cases e; exact ⟨by decide, by rw [← of_b31]; rfl⟩
    rcases List.mem_cons.mp hm with e | hm
    · cases e; exact ⟨by decide, by rw [← of_b39]; rfl⟩
    rcases List.mem_cons.mp hm with e | hm
    · cases e; exact ⟨by decide, by rw [← of_b46]; rfl⟩
    rcases List.mem_cons.mp hm with e | hm
    · cases e; exact ⟨by decide, by rw [← of_b54]; rfl⟩
    cases hm))
  have gq : ∀ q, q < H0.size → q ≠ a0 → (th_up (th_up (th_up (th_up (th_up (th_up (th_up (th_up Γ b7 (4, a0)) b15 (5, a0)) b23 (6, a0)) b31 (7, a0)) b39 (8, a0)) b46 (9, a0)) b54 (10, a0)) a0 (3, 0)) q = Γ q := fun q h1 h2 => ((((((((th_up_n h2).trans (th_up_n (by have q9 := lb54; omega))).trans (th_up_n (by have q9 := lb46; omega))).trans (th_up_n (by have q9 := lb39; omega))).trans (th_up_n (by have q9 := lb31; omega))).trans (th_up_n (by have q9 := lb23; omega))).trans (th_up_n (by have q9 := lb15; omega))).trans (th_up_n (by have q9 := lb7; omega)))
  refine th_vret hC hH hr hlocks hB.1.2.1 ⟨rfl, (th_up (th_up (th_up (th_up (th_up (th_up (th_up (th_up Γ b7 (4, a0)) b15 (5, a0)) b23 (6, a0)) b31 (7, a0)) b39 (8, a0)) b46 (9, a0)) b54 (10, a0)) a0 (3, 0)), ⟨⟨hI2, (by omega), fun q h1 h2 => ⟨(gq q h1 h2).trans (hB.1.2.2.2.1 q h1 h2), hB.1.2.2.1 q h1 h2⟩⟩, hR2, th_up_s, fun q w => hB.2.2.2 q (th_MR_up (show (4 : Nat) ≠ 12 by decide) (th_MR_up (show (5 : Nat) ≠ 12 by decide) (th_MR_up (show (6 : Nat) ≠ 12 by decide) (th_MR_up (show (7 : Nat) ≠ 12 by decide) (th_MR_up (show (8 : Nat) ≠ 12 by decide) (th_MR_up (show (9 : Nat) ≠ 12 by decide) (th_MR_up (show (10 : Nat) ≠ 12 by decide) (th_MR_up (show (3 : Nat) ≠ 12 by decide) w)))))))), fun q x o hg hq hs => ?_⟩, hIN2, hs⟩ dX1_init_88
  by_cases e_a0 : q = a0
  · rw [e_a0, th_up_s] at hg; cases hg; decide
  rw [th_up_n e_a0] at hg
  by_cases e_b54 : q = b54
  · rw [e_b54, th_up_s] at hg; cases hg; decide
  rw [th_up_n e_b54] at hg
  by_cases e_b46 : q = b46
  · rw [e_b46, th_up_s] at hg; cases hg; decide
  rw [th_up_n e_b46] at hg
  by_cases e_b39 : q = b39
  · rw [e_b39, th_up_s] at hg; cases hg; decide
  rw [th_up_n e_b39] at hg
  by_cases e_b31 : q = b31
  · rw [e_b31, th_up_s] at hg; cases hg; decide
  rw [th_up_n e_b31] at hg
  by_cases e_b23 : q = b23
  · rw [e_b23, th_up_s] at hg; cases hg; decide
  rw [th_up_n e_b23] at hg
  by_cases e_b15 : q = b15
  · rw [e_b15, th_up_s] at hg; cases hg; decide
  rw [th_up_n e_b15] at hg
  by_cases e_b7 : q = b7
  · rw [e_b7, th_up_s] at hg; cases hg; decide
  rw [th_up_n e_b7] at hg
  exact (show ∀ x ∈ ([] : List Nat), x ∈ [3, 4, 5, 6, 7, 8, 9, 10] by decide) x (hN q x o hg hq hs)

set_option maxHeartbeats 4000000 in
set_option maxRecDepth 100000 in
theorem c_X2_init_i (l : Launch) (G : th_G) (Γ : th_Ga) (H0 : Heap) (hI : th_I G Γ H0) (hR : th_RC G Γ H0) (a0 : Nat) (ho : th_OB G Γ H0 a0 2 1 (fun j => defaultValue (tyX2 j))) (hsz : G.2.2 ≤ a0) (hlt : a0 < H0.size) (hm : ¬ th_MR G Γ H0 a0) (hz1 : H0.size = a0 + 1) : Met l yX2_init (.code yX2_init cX2_init 1 (none) :: th_tb) ({ frames := 2, cells := 4, slots := 94, locals := 32 } : Room) (th_P [.ref a0] G H0) (th_Q (fun (v : Option Value) (H1 : Heap) => v = none ∧ ∃ Γ1 : th_Ga, th_NY G Γ Γ1 a0 11 [11, 23, 24, 25, 26] H0 H1 ∧ th_IN G Γ1 a0 H0 H1 ∧ H1.size = H0.size + 4) G) 4 94 (fun q => G.2.2 ≤ q) := by
  refine th_met RX2 (by decide) rfl (Nat.le_of_ble_eq_true rfl) ?_
  intro p e s m below meth c hC hH hr hlocks hnm ls hl
  have hx := hC.1
  have hb := hC.2.1
  have hB : th_NR G Γ Γ a0 H0 H0 [] := ⟨⟨hI, va_S.rf, fun _ _ _ => rfl, fun _ _ _ => rfl, ho.1, hsz, hlt⟩, hR, hm, fun q w => Or.inl w⟩
  have hl : lv_has ls 1 [(0, .ref a0)] := hl
  have hs : H0.size ≤ H0.size := Nat.le_refl _
  have hN := th_new_0 (a0 := a0) hI ho.1
  have hIN := th_IN_0 (a0 := a0) hI ho.1
  refine lv_aload_n hx hb dX2_init_0 rfl (lv_at hl 0 rfl) ?_
  refine W.objInit hx hb hC.2.2.2.1 (hC.2.2.2.2.1 _ kw_252) (hC.2.2.2.2.1 _ kw_28) (hC.2.2.2.2.1 _ kw_29) rfl (hl.1.trans hC.2.2.1.symm) rfl dX2_init_1 (Nat.le_of_ble_eq_true rfl) (Nat.le_of_ble_eq_true rfl) ?_
  refine W.eq (g2 := F0 m 4 ls []) rfl ?_
  refine lv_aload_n hx hb dX2_init_4 rfl (lv_at hl 0 rfl) ?_
  refine tc_new hC cf_X6 hB.1 kw_253 kw_225 kw_7 (Nat.le_of_ble_eq_true rfl) (Nat.le_of_ble_eq_true rfl) dX2_init_5 (fun b5 H5 eb5 zb5 oq5 hB1 kn => ?_)
  have of_b5 : b5 = a0 + 1 := by omega
  have n50 : ¬ th_MR G Γ H0 b5 := fun w => absurd (th_MR_lt hB.2.1 w) (by omega)
  have u5 := kn.1
  have hB := th_NR_s hB hB1 u5 n50 (by omega) oq5
  have hIN := th_IN_s hIN u5 oq5
  have nb : ¬ th_MR G Γ H5 b5 := fun w => n50 (th_MR_s u5 oq5 w)
  have ho := tc_OBo ho oq5 (by omega)
  have lbn : H0.size ≤ b5 := by omega
  have ltn : b5 < H5.size := by omega
  have szn : G.2.2 ≤ b5 := by have q9 := hB.1.2.2.2.2.2.1; have q8 := hB.1.2.2.2.2.2.2; omega
  have hs : H5.size = H0.size + 1 := by omega
  refine lv_dup hx hb dX2_init_8 rfl ?_
  refine th_call (th_runI (As := []) (rest := [.ref b5, .ref a0]) hC mf_X6_init km_X2_11 im_X6_init rfl (c_X6_init_i l G Γ H5 hB.1.1 hB.2.1 b5 kn szn ltn nb (by omega)) rfl rfl ⟨Nat.le_of_ble_eq_true rfl, Nat.le_of_ble_eq_true rfl⟩ rfl hl.1 rfl (Nat.le_of_ble_eq_true rfl) dX2_init_9 ⟨Nat.le_of_ble_eq_true rfl, Nat.le_of_ble_eq_true rfl⟩) hB.1.2.1 (fun v9 H9 locs hp hz hS => ?_)
  obtain ⟨rfl, Γ9, hy, hi, hzn⟩ := hp
  have hB := th_NR_c hB hy lbn hS
  have hIN := th_IN_c hIN hy hi
  have ho := tc_OBc ho hy (by omega) (by omega)
  have hr_b5 := hy.2.2.1
  have hs : H9.size = H0.size + 4 := by omega
  have hN := th_new_c hN hy
  refine W.eq (g2 := F0 m 12 ls [.ref b5, .ref a0]) rfl ?_
  refine tc_putF hC cf_X2 hB.1 ho (j := 0) (by decide) rfl hnm rfl rfl kf_X2_12 dX2_init_12 (fun H12 locs hB1 ho z12 oq12 => ?_)
  have hu := hB.1.2.2.2.2.1
  have hB := th_NR_s hB hB1 hu hB.2.2.1 (by omega) oq12
  have hIN := th_IN_s hIN hu oq12
  have hs : H12.size = H0.size + 4 := by omega
  have hI1 := hB.1.1
  have hR1 := hB.2.1
  have nm0 : ¬ th_MR G Γ9 H12 a0 := fun w => hB.2.2.1 w
  have hI2 := th_nmO (r := 11) hI1 ho hsz ro_11 rfl (fun j q hq => by
    match j, hq with
    | 0, hq => have e9 := Option.some.inj hq; subst e9; exact th_sR hr_b5
    | n + 1, hq => exact absurd (List.getElem?_eq_some_iff.mp hq).1 (by simp))
  have hR2 := th_RC_up hI1 hR1 (x := (11, 0)) ho.1 nm0 hI2 (fun e => absurd e (by decide)) (fun e => absurd e (by decide)) (by decide)
  have hIN2 := th_IN_up (b := a0) (x := (11, 0)) hIN (ini_f (r := 11) ho rfl rfl rfl (fun j x hm => by
    cases hm) (fun j d hm => by
    rcases List.mem_cons.mp hm with e | hm
    · cases e; exact ⟨by decide, by rw [← of_b5]; rfl⟩
    cases hm))
  have gq : ∀ q, q < H0.size → q ≠ a0 → (th_up Γ9 a0 (11, 0)) q = Γ9 q := fun q h1 h2 => (th_up_n h2)
  refine th_vret hC hH hr hlocks hB.1.2.1 ⟨rfl, (th_up Γ9 a0 (11, 0)), ⟨⟨hI2, (by omega), fun q h1 h2 => ⟨(gq q h1 h2).trans (hB.1.2.2.2.1 q h1 h2), hB.1.2.2.1 q h1 h2⟩⟩, hR2, th_up_s, fun q w => hB.2.2.2 q (th_MR_up (show (11 : Nat) ≠ 12 by decide) w), fun q x o hg hq hs => ?_⟩, hIN2, hs⟩ dX2_init_15
  by_cases e_a0 : q = a0
  · rw [e_a0, th_up_s] at hg; cases hg; decide
  rw [th_up_n e_a0] at hg
  exact (show ∀ x ∈ (([] ++ [23, 24, 25, 26]) : List Nat), x ∈ [11, 23, 24, 25, 26] by decide) x (hN q x o hg hq hs)

set_option maxHeartbeats 4000000 in
set_option maxRecDepth 100000 in
theorem c_X4_init_i (l : Launch) (G : th_G) (Γ : th_Ga) (H0 : Heap) (hI : th_I G Γ H0) (hR : th_RC G Γ H0) (a0 : Nat) (ho : th_OB G Γ H0 a0 4 5 (fun j => defaultValue (tyX4 j))) (hsz : G.2.2 ≤ a0) (hlt : a0 < H0.size) (hm : ¬ th_MR G Γ H0 a0) (hz1 : H0.size = a0 + 1) : Met l yX4_init (.code yX4_init cX4_init 1 (none) :: th_tb) ({ frames := 2, cells := 10, slots := 1031, locals := 32 } : Room) (th_P [.ref a0] G H0) (th_Q (fun (v : Option Value) (H1 : Heap) => v = none ∧ ∃ Γ1 : th_Ga, th_NY G Γ Γ1 a0 17 [3, 4, 5, 6, 7, 8, 9, 10, 17, 18, 19] H0 H1 ∧ th_IN G Γ1 a0 H0 H1 ∧ H1.size = H0.size + 10) G) 10 1031 (fun q => G.2.2 ≤ q) := by
  refine th_met RX4 (by decide) rfl (Nat.le_of_ble_eq_true rfl) ?_
  intro p e s m below meth c hC hH hr hlocks hnm ls hl
  have hx := hC.1
  have hb := hC.2.1
  have hB : th_NR G Γ Γ a0 H0 H0 [] := ⟨⟨hI, va_S.rf, fun _ _ _ => rfl, fun _ _ _ => rfl, ho.1, hsz, hlt⟩, hR, hm, fun q w => Or.inl w⟩
  have hl : lv_has ls 1 [(0, .ref a0)] := hl
  have hs : H0.size ≤ H0.size := Nat.le_refl _
  have hN := th_new_0 (a0 := a0) hI ho.1
  have hIN := th_IN_0 (a0 := a0) hI ho.1
  refine lv_aload_n hx hb dX4_init_0 rfl (lv_at hl 0 rfl) ?_
  refine W.objInit hx hb hC.2.2.2.1 (hC.2.2.2.2.1 _ kw_264) (hC.2.2.2.2.1 _ kw_28) (hC.2.2.2.2.1 _ kw_29) rfl (hl.1.trans hC.2.2.1.symm) rfl dX4_init_1 (Nat.le_of_ble_eq_true rfl) (Nat.le_of_ble_eq_true rfl) ?_
  refine W.eq (g2 := F0 m 4 ls []) rfl ?_
  refine lv_aload_n hx hb dX4_init_4 rfl (lv_at hl 0 rfl) ?_
  refine lv_sipush (v := 480) hx hb dX4_init_5 (by decide) ?_
  refine tc_newa (ty := .int) (t := 0) hC hB.1 rfl rfl rfl kw_104 (N := 480) tk_480 (by decide) (Nat.le_of_ble_eq_true rfl) (Nat.le_of_ble_eq_true rfl) dX4_init_8 (fun b8 H8 eb8 zb8 oq8 hB1 k8 => ?_)
  have u8 := k8.2.1
  have of_b8 : b8 = a0 + 1 := by omega
  have n80 : ¬ th_MR G Γ H0 b8 := fun w => absurd (th_MR_lt hB.2.1 w) (by omega)
  have hB := th_NR_s hB hB1 u8 n80 (by omega) oq8
  have hIN := th_IN_s hIN u8 oq8
  have n8 : ¬ th_MR G Γ H8 b8 := fun w => n80 (th_MR_s u8 oq8 w)
  have lb8 : H0.size ≤ b8 := by omega
  have ho := tc_OBo ho oq8 (by omega)
  have hs : H8.size = H0.size + 1 := by omega
  refine tc_putF hC cf_X4 hB.1 ho (j := 0) (by decide) rfl hnm rfl rfl kf_X4_11 dX4_init_10 (fun H10 locs hB1 ho z10 oq10 => ?_)
  have hu := hB.1.2.2.2.2.1
  have hB := th_NR_s hB hB1 hu hB.2.2.1 (by omega) oq10
  have hIN := th_IN_s hIN hu oq10
  have k8x := tm_MAo k8 oq10 (of_n0 of_b8 (by decide))
  have n8x : ¬ th_MR G Γ H10 b8 := fun w => n8 (th_MR_s hu oq10 w)
  have hs : H10.size = H0.size + 1 := by omega
  refine lv_aload_n hx hb dX4_init_13 rfl (lv_at hl 0 rfl) ?_
  refine lv_sipush (v := 480) hx hb dX4_init_14 (by decide) ?_
  refine tc_newa (ty := .int) (t := 0) hC hB.1 rfl rfl rfl kw_104 (N := 480) tk_480 (by decide) (Nat.le_of_ble_eq_true rfl) (Nat.le_of_ble_eq_true rfl) dX4_init_17 (fun b17 H17 eb17 zb17 oq17 hB1 k17 => ?_)
  have u17 := k17.2.1
  have of_b17 : b17 = a0 + 2 := by omega
  have n170 : ¬ th_MR G Γ H10 b17 := fun w => absurd (th_MR_lt hB.2.1 w) (by omega)
  have hB := th_NR_s hB hB1 u17 n170 (by omega) oq17
  have hIN := th_IN_s hIN u17 oq17
  have n17 : ¬ th_MR G Γ H17 b17 := fun w => n170 (th_MR_s u17 oq17 w)
  have lb17 : H0.size ≤ b17 := by omega
  have ho := tc_OBo ho oq17 (by omega)
  have k8xx := tm_MAo k8x oq17 (of_ne of_b8 of_b17 (by decide))
  have n8xx : ¬ th_MR G Γ H17 b8 := fun w => n8x (th_MR_s u17 oq17 w)
  have hs : H17.size = H0.size + 2 := by omega
  refine tc_putF hC cf_X4 hB.1 ho (j := 1) (by decide) rfl hnm rfl rfl kf_X4_15 dX4_init_19 (fun H19 locs hB1 ho z19 oq19 => ?_)
  have hu := hB.1.2.2.2.2.1
  have hB := th_NR_s hB hB1 hu hB.2.2.1 (by omega) oq19
  have hIN := th_IN_s hIN hu oq19
  have k8xxx := tm_MAo k8xx oq19 (of_n0 of_b8 (by decide))
  have n8xxx : ¬ th_MR G Γ H19 b8 := fun w => n8xx (th_MR_s hu oq19 w)
  have k17x := tm_MAo k17 oq19 (of_n0 of_b17 (by decide))
  have n17x : ¬ th_MR G Γ H19 b17 := fun w => n17 (th_MR_s hu oq19 w)
  have hs : H19.size = H0.size + 2 := by omega
  refine lv_aload_n hx hb dX4_init_22 rfl (lv_at hl 0 rfl) ?_
  refine tc_new hC cf_X1 hB.1 kw_265 kw_37 kw_3 (Nat.le_of_ble_eq_true rfl) (Nat.le_of_ble_eq_true rfl) dX4_init_23 (fun b23 H23 eb23 zb23 oq23 hB1 kn => ?_)
  have of_b23 : b23 = a0 + 3 := by omega
  have n230 : ¬ th_MR G Γ H19 b23 := fun w => absurd (th_MR_lt hB.2.1 w) (by omega)
  have u23 := kn.1
  have hB := th_NR_s hB hB1 u23 n230 (by omega) oq23
  have hIN := th_IN_s hIN u23 oq23
  have nb : ¬ th_MR G Γ H23 b23 := fun w => n230 (th_MR_s u23 oq23 w)
  have ho := tc_OBo ho oq23 (by omega)
  have k8xxxx := tm_MAo k8xxx oq23 (of_ne of_b8 of_b23 (by decide))
  have n8xxxx : ¬ th_MR G Γ H23 b8 := fun w => n8xxx (th_MR_s u23 oq23 w)
  have k17xx := tm_MAo k17x oq23 (of_ne of_b17 of_b23 (by decide))
  have n17xx : ¬ th_MR G Γ H23 b17 := fun w => n17x (th_MR_s u23 oq23 w)
  have lbn : H0.size ≤ b23 := by omega
  have ltn : b23 < H23.size := by omega
  have szn : G.2.2 ≤ b23 := by have q9 := hB.1.2.2.2.2.2.1; have q8 := hB.1.2.2.2.2.2.2; omega
  have hs : H23.size = H0.size + 3 := by omega
  refine lv_dup hx hb dX4_init_26 rfl ?_
  refine th_call (th_runI (As := []) (rest := [.ref b23, .ref a0]) hC mf_X1_init km_X4_20 im_X1_init rfl (c_X1_init_i l G Γ H23 hB.1.1 hB.2.1 b23 kn szn ltn nb (by omega)) rfl rfl ⟨Nat.le_of_ble_eq_true rfl, Nat.le_of_ble_eq_true rfl⟩ rfl hl.1 rfl (Nat.le_of_ble_eq_true rfl) dX4_init_27 ⟨Nat.le_of_ble_eq_true rfl, Nat.le_of_ble_eq_true rfl⟩) hB.1.2.1 (fun v27 H27 locs hp hz hS => ?_)
  obtain ⟨rfl, Γ27, hy, hi, hzn⟩ := hp
  have hB := th_NR_c hB hy lbn hS
  have hIN := th_IN_c hIN hy hi
  have ho := tc_OBc ho hy (by omega) (by omega)
  have n8xxxxx : ¬ th_MR G Γ27 H27 b8 := fun w => (hy.2.2.2.1 _ w).elim n8xxxx (fun w => absurd w (by have q9 := (of_lt hz1 hs of_b8 (by decide)); omega))
  have k8xxxxx := tc_MAc k8xxxx hy (of_ne of_b8 of_b23 (by decide))
  have n17xxx : ¬ th_MR G Γ27 H27 b17 := fun w => (hy.2.2.2.1 _ w).elim n17xx (fun w => absurd w (by have q9 := (of_lt hz1 hs of_b17 (by decide)); omega))
  have k17xxx := tc_MAc k17xx hy (of_ne of_b17 of_b23 (by decide))
  have hr_b23 := hy.2.2.1
  have hs : H27.size = H0.size + 10 := by omega
  have hN := th_new_c hN hy
  refine W.eq (g2 := F0 m 30 ls [.ref b23, .ref a0]) rfl ?_
  refine tc_putF hC cf_X4 hB.1 ho (j := 2) (by decide) rfl hnm rfl rfl kf_X4_21 dX4_init_30 (fun H30 locs hB1 ho z30 oq30 => ?_)
  have hu := hB.1.2.2.2.2.1
  have hB := th_NR_s hB hB1 hu hB.2.2.1 (by omega) oq30
  have hIN := th_IN_s hIN hu oq30
  have k8xxxxxx := tm_MAo k8xxxxx oq30 (of_n0 of_b8 (by decide))
  have n8xxxxxx : ¬ th_MR G Γ27 H30 b8 := fun w => n8xxxxx (th_MR_s hu oq30 w)
  have k17xxxx := tm_MAo k17xxx oq30 (of_n0 of_b17 (by decide))
  have n17xxxx : ¬ th_MR G Γ27 H30 b17 := fun w => n17xxx (th_MR_s hu oq30 w)
  have hs : H30.size = H0.size + 10 := by omega
  refine lv_aload_n hx hb dX4_init_33 rfl (lv_at hl 0 rfl) ?_
  refine lv_iconst (v := 0) hx hb dX4_init_34 (by decide) ?_
  refine tc_put hC cf_X4 hB.1 ho (j := 3) (by decide) rfl rfl rfl kf_X4_25 dX4_init_35 (fun H35 locs hB1 ho z35 oq35 => ?_)
  have hu := hB.1.2.2.2.2.1
  have hB := th_NR_s hB hB1 hu hB.2.2.1 (by omega) oq35
  have hIN := th_IN_s hIN hu oq35
  have k8xxxxxxx := tm_MAo k8xxxxxx oq35 (of_n0 of_b8 (by decide))
  have n8xxxxxxx : ¬ th_MR G Γ27 H35 b8 := fun w => n8xxxxxx (th_MR_s hu oq35 w)
  have k17xxxxx := tm_MAo k17xxxx oq35 (of_n0 of_b17 (by decide))
  have n17xxxxx : ¬ th_MR G Γ27 H35 b17 := fun w => n17xxxx (th_MR_s hu oq35 w)
  have hs : H35.size = H0.size + 10 := by omega
  refine lv_aload_n hx hb dX4_init_38 rfl (lv_at hl 0 rfl) ?_
  refine lv_iconst (v := 0) hx hb dX4_init_39 (by decide) ?_
  refine tc_put hC cf_X4 hB.1 ho (j := 4) (by decide) rfl rfl rfl kf_X4_29 dX4_init_40 (fun H40 locs hB1 ho z40 oq40 => ?_)
  have hu := hB.1.2.2.2.2.1
  have hB := th_NR_s hB hB1 hu hB.2.2.1 (by omega) oq40
  have hIN := th_IN_s hIN hu oq40
  have k8xxxxxxxx := tm_MAo k8xxxxxxx oq40 (of_n0 of_b8 (by decide))
  have n8xxxxxxxx : ¬ th_MR G Γ27 H40 b8 := fun w => n8xxxxxxx (th_MR_s hu oq40 w)
  have k17xxxxxx := tm_MAo k17xxxxx oq40 (of_n0 of_b17 (by decide))
  have n17xxxxxx : ¬ th_MR G Γ27 H40 b17 := fun w => n17xxxxx (th_MR_s hu oq40 w)
  have hs : H40.size = H0.size + 10 := by omega
  have hI1 := hB.1.1
  have hR1 := hB.2.1
  have hI2 := th_nmA (r := 18) (o := a0) hI1 k8xxxxxxxx ro_18 (Nat.le_refl _) (Nat.le_refl _) (fun i _ => th_sI (x := 0) (by decide) (by decide))
  have hR1 := th_RC_up hI1 hR1 (x := (18, a0)) k8xxxxxxxx.2.1 n8xxxxxxxx hI2 (fun e => absurd (show (18 : Nat) = 3 from e) (by decide)) (fun _ => tc_PS k8xxxxxxxx.2.2) (show (18 : Nat) ≠ 12 by decide)
  have hI1 := hI2
  have hIN := th_IN_up (b := b8) (x := (18, a0)) hIN (ini_r rfl rfl rfl rfl (fun i hi => th_sl_at k8xxxxxxxx.2.2 (arrV_read _ _ hi)))
  have ho := th_OB_up (b := b8) (x := (18, a0)) ho (by have q9 := lb8; omega)
  have k17xxxxxxu := th_MA_up (b := b8) (x := (18, a0)) k17xxxxxx (fun e => (of_ne of_b8 of_b17 (by decide)) e.symm)
  have n17xxxxxxu : ¬ th_MR G (th_up Γ27 b8 (18, a0)) H40 b17 := fun w => n17xxxxxx (th_MR_up (show (18 : Nat) ≠ 12 by decide) w)
  have hI2 := th_nmA (r := 19) (o := a0) hI1 k17xxxxxxu ro_19 (Nat.le_refl _) (Nat.le_refl _) (fun i _ => th_sI (x := 0) (by decide) (by decide))
  have hR1 := th_RC_up hI1 hR1 (x := (19, a0)) k17xxxxxxu.2.1 n17xxxxxxu hI2 (fun e => absurd (show (19 : Nat) = 3 from e) (by decide)) (fun _ => tc_PS k17xxxxxxu.2.2) (show (19 : Nat) ≠ 12 by decide)
  have hI1 := hI2
  have hIN := th_IN_up (b := b17) (x := (19, a0)) hIN (ini_r rfl rfl rfl rfl (fun i hi => th_sl_at k17xxxxxx.2.2 (arrV_read _ _ hi)))
  have ho := th_OB_up (b := b17) (x := (19, a0)) ho (by have q9 := lb17; omega)
  have g_b8 : (th_up (th_up Γ27 b8 (18, a0)) b17 (19, a0)) b8 = (18, a0) := (th_up_n ((of_ne of_b8 of_b17 (by decide)))).trans (th_up_s)
  have g_b17 : (th_up (th_up Γ27 b8 (18, a0)) b17 (19, a0)) b17 = (19, a0) := th_up_s
  have nm0 : ¬ th_MR G (th_up (th_up Γ27 b8 (18, a0)) b17 (19, a0)) H40 a0 := fun w => hB.2.2.1 (th_MR_up (show (18 : Nat) ≠ 12 by decide) (th_MR_up (show (19 : Nat) ≠ 12 by decide) w))
  have hI2 := th_nmO (r := 17) hI1 ho hsz ro_17 rfl (fun j q hq => by
    match j, hq with
    | 0, hq => have e9 := Option.some.inj hq; subst e9; exact th_sO g_b8
    | 1, hq => have e9 := Option.some.inj hq; subst e9; exact th_sO g_b17
    | 2, hq => have e9 := Option.some.inj hq; subst e9; exact th_sR ((th_up_n (of_ne of_b23 of_b17 (by decide))).trans ((th_up_n (of_ne of_b23 of_b8 (by decide))).trans hr_b23))
    | 3, hq => have e9 := Option.some.inj hq; subst e9; exact th_sI (x := 0) (by decide) (by decide)
    | 4, hq => have e9 := Option.some.inj hq; subst e9; exact th_sI (x := 0) (by decide) (by decide)
    | n + 5, hq => exact absurd (List.getElem?_eq_some_iff.mp hq).1 (by simp))
  have hR2 := th_RC_up hI1 hR1 (x := (17, 0)) ho.1 nm0 hI2 (fun e => absurd e (by decide)) (fun e => absurd e (by decide)) (by decide)
  have hIN2 := th_IN_up (b := a0) (x := (17, 0)) hIN (ini_f (r := 17) ho rfl rfl rfl (fun j x hm => by
    rcases List.mem_cons.mp hm with e | hm
    · cases e; exact ⟨by decide, rfl⟩
    rcases List.mem_cons.mp hm with e | hm
    · cases e; exact ⟨by decide, rfl⟩
    cases hm) (fun j d hm => by
    rcases List.mem_cons.mp hm with e | hm
    · cases e; exact ⟨by decide, by rw [← of_b8]; rfl⟩
    rcases List.mem_cons.mp hm with e | hm
    · cases e; exact ⟨by decide, by rw [← of_b17]; rfl⟩
    rcases List.mem_cons.mp hm with e | hm
    · cases e; exact ⟨by decide, by rw [← of_b23]; rfl⟩
    cases hm))
  have gq : ∀ q, q < H0.size → q ≠ a0 → (th_up (th_up (th_up Γ27 b8 (18, a0)) b17 (19, a0)) a0 (17, 0)) q = Γ27 q := fun q h1 h2 => (((th_up_n h2).trans (th_up_n (by have q9 := lb17; omega))).trans (th_up_n (by have q9 := lb8; omega)))
  refine th_vret hC hH hr hlocks hB.1.2.1 ⟨rfl, (th_up (th_up (th_up Γ27 b8 (18, a0)) b17 (19, a0)) a0 (17, 0)), ⟨⟨hI2, (by omega), fun q h1 h2 => ⟨(gq q h1 h2).trans (hB.1.2.2.2.1 q h1 h2), hB.1.2.2.1 q h1 h2⟩⟩, hR2, th_up_s, fun q w => hB.2.2.2 q (th_MR_up (show (18 : Nat) ≠ 12 by decide) (th_MR_up (show (19 : Nat) ≠ 12 by decide) (th_MR_up (show (17 : Nat) ≠ 12 by decide) w))), fun q x o hg hq hs => ?_⟩, hIN2, hs⟩ dX4_init_43
  by_cases e_a0 : q = a0
  · rw [e_a0, th_up_s] at hg; cases hg; decide
  rw [th_up_n e_a0] at hg
  by_cases e_b17 : q = b17
  · rw [e_b17, th_up_s] at hg; cases hg; decide
  rw [th_up_n e_b17] at hg
  by_cases e_b8 : q = b8
  · rw [e_b8, th_up_s] at hg; cases hg; decide
  rw [th_up_n e_b8] at hg
  exact (show ∀ x ∈ (([] ++ [3, 4, 5, 6, 7, 8, 9, 10]) : List Nat), x ∈ [3, 4, 5, 6, 7, 8, 9, 10, 17, 18, 19] by decide) x (hN q x o hg hq hs)
end
section
set_option maxHeartbeats 4000000 in
set_option maxRecDepth 100000 in
theorem c_X8_init_i (l : Launch) (G : th_G) (Γ : th_Ga) (H0 : Heap) (hI : th_I G Γ H0) (hR : th_RC G Γ H0) (a0 : Nat) (ho : th_OB G Γ H0 a0 8 8 (fun j => defaultValue (tyX8 j))) (hsz : G.2.2 ≤ a0) (hlt : a0 < H0.size) (hm : ¬ th_MR G Γ H0 a0) (hz1 : H0.size = a0 + 1) : Met l yX8_init (.code yX8_init cX8_init 2 (none) :: th_tb) ({ frames := 2, cells := 30, slots := 3095, locals := 32 } : Room) (th_P [.ref a0] G H0) (th_Q (fun (v : Option Value) (H1 : Heap) => v = none ∧ ∃ Γ1 : th_Ga, th_NY G Γ Γ1 a0 32 [3, 4, 5, 6, 7, 8, 9, 10, 32, 33, 34, 35, 36, 39, 40, 41] H0 H1 ∧ th_IN G Γ1 a0 H0 H1 ∧ H1.size = H0.size + 30) G) 30 3095 (fun q => G.2.2 ≤ q) := by
  refine th_met RX8 (by decide) rfl (Nat.le_of_ble_eq_true rfl) ?_
  intro p e s m below meth c hC hH hr hlocks hnm ls hl
  have hx := hC.1
  have hb := hC.2.1
  have hB : th_NR G Γ Γ a0 H0 H0 [] := ⟨⟨hI, va_S.rf, fun _ _ _ => rfl, fun _ _ _ => rfl, ho.1, hsz, hlt⟩, hR, hm, fun q w => Or.inl w⟩
  have hl : lv_has ls 2 [(0, .ref a0)] := hl
  have hs : H0.size ≤ H0.size := Nat.le_refl _
  have hN := th_new_0 (a0 := a0) hI ho.1
  have hIN := th_IN_0 (a0 := a0) hI ho.1
  refine lv_aload_n hx hb dX8_init_0 rfl (lv_at hl 0 rfl) ?_
  refine W.objInit hx hb hC.2.2.2.1 (hC.2.2.2.2.1 _ kw_35) (hC.2.2.2.2.1 _ kw_28) (hC.2.2.2.2.1 _ kw_29) rfl (hl.1.trans hC.2.2.1.symm) rfl dX8_init_1 (Nat.le_of_ble_eq_true rfl) (Nat.le_of_ble_eq_true rfl) ?_
  refine W.eq (g2 := F0 m 4 ls []) rfl ?_
  refine lv_aload_n hx hb dX8_init_4 rfl (lv_at hl 0 rfl) ?_
  refine tc_new hC cf_X1 hB.1 kw_36 kw_37 kw_3 (Nat.le_of_ble_eq_true rfl) (Nat.le_of_ble_eq_true rfl) dX8_init_5 (fun b5 H5 eb5 zb5 oq5 hB1 kn => ?_)
  have of_b5 : b5 = a0 + 1 := by omega
  have n50 : ¬ th_MR G Γ H0 b5 := fun w => absurd (th_MR_lt hB.2.1 w) (by omega)
  have u5 := kn.1
  have hB := th_NR_s hB hB1 u5 n50 (by omega) oq5
  have hIN := th_IN_s hIN u5 oq5
  have nb : ¬ th_MR G Γ H5 b5 := fun w => n50 (th_MR_s u5 oq5 w)
  have ho := tc_OBo ho oq5 (by omega)
  have lbn : H0.size ≤ b5 := by omega
  have ltn : b5 < H5.size := by omega
  have szn : G.2.2 ≤ b5 := by have q9 := hB.1.2.2.2.2.2.1; have q8 := hB.1.2.2.2.2.2.2; omega
  have hs : H5.size = H0.size + 1 := by omega
  refine lv_dup hx hb dX8_init_8 rfl ?_
  refine th_call (th_runI (As := []) (rest := [.ref b5, .ref a0]) hC mf_X1_init km_X8_11 im_X1_init rfl (c_X1_init_i l G Γ H5 hB.1.1 hB.2.1 b5 kn szn ltn nb (by omega)) rfl rfl ⟨Nat.le_of_ble_eq_true rfl, Nat.le_of_ble_eq_true rfl⟩ rfl hl.1 rfl (Nat.le_of_ble_eq_true rfl) dX8_init_9 ⟨Nat.le_of_ble_eq_true rfl, Nat.le_of_ble_eq_true rfl⟩) hB.1.2.1 (fun v9 H9 locs hp hz hS => ?_)
  obtain ⟨rfl, Γ9, hy, hi, hzn⟩ := hp
  have hB := th_NR_c hB hy lbn hS
  have hIN := th_IN_c hIN hy hi
  have ho := tc_OBc ho hy (by omega) (by omega)
  have hr_b5 := hy.2.2.1
  have hs : H9.size = H0.size + 8 := by omega
  have hN := th_new_c hN hy
  refine W.eq (g2 := F0 m 12 ls [.ref b5, .ref a0]) rfl ?_
  refine tc_putF hC cf_X8 hB.1 ho (j := 0) (by decide) rfl hnm rfl rfl kf_X8_12 dX8_init_12 (fun H12 locs hB1 ho z12 oq12 => ?_)
  have hu := hB.1.2.2.2.2.1
  have hB := th_NR_s hB hB1 hu hB.2.2.1 (by omega) oq12
  have hIN := th_IN_s hIN hu oq12
  have hs : H12.size = H0.size + 8 := by omega
  refine lv_aload_n hx hb dX8_init_15 rfl (lv_at hl 0 rfl) ?_
  refine lv_bipush (v := 6) hx hb dX8_init_16 (by decide) ?_
  refine tc_anew (t := 4) hC hB.1 rfl hC.2.2.2.2.2.2.1 kw_105 (N := 6) tk_6 (by decide) (Nat.le_of_ble_eq_true rfl) (Nat.le_of_ble_eq_true rfl) dX8_init_18 (fun b18 H18 eb18 zb18 oq18 hB1 k18 => ?_)
  have u18 := k18.2.1
  have of_b18 : b18 = a0 + 9 := by omega
  have n180 : ¬ th_MR G Γ9 H12 b18 := fun w => absurd (th_MR_lt hB.2.1 w) (by omega)
  have hB := th_NR_s hB hB1 u18 n180 (by omega) oq18
  have hIN := th_IN_s hIN u18 oq18
  have n18 : ¬ th_MR G Γ9 H18 b18 := fun w => n180 (th_MR_s u18 oq18 w)
  have lb18 : H0.size ≤ b18 := by omega
  have ho := tc_OBo ho oq18 (by omega)
  have hs : H18.size = H0.size + 9 := by omega
  refine tc_putF hC cf_X8 hB.1 ho (j := 1) (by decide) rfl hnm rfl rfl kf_X8_20 dX8_init_21 (fun H21 locs hB1 ho z21 oq21 => ?_)
  have hu := hB.1.2.2.2.2.1
  have hB := th_NR_s hB hB1 hu hB.2.2.1 (by omega) oq21
  have hIN := th_IN_s hIN hu oq21
  have k18x := tm_MAo k18 oq21 (of_n0 of_b18 (by decide))
  have n18x : ¬ th_MR G Γ9 H21 b18 := fun w => n18 (th_MR_s hu oq21 w)
  have hs : H21.size = H0.size + 9 := by omega
  refine lv_aload_n hx hb dX8_init_24 rfl (lv_at hl 0 rfl) ?_
  refine lv_bipush (v := 6) hx hb dX8_init_25 (by decide) ?_
  refine tc_newa (ty := .int) (t := 0) hC hB.1 rfl rfl rfl kw_104 (N := 6) tk_6 (by decide) (Nat.le_of_ble_eq_true rfl) (Nat.le_of_ble_eq_true rfl) dX8_init_27 (fun b27 H27 eb27 zb27 oq27 hB1 k27 => ?_)
  have u27 := k27.2.1
  have of_b27 : b27 = a0 + 10 := by omega
  have n270 : ¬ th_MR G Γ9 H21 b27 := fun w => absurd (th_MR_lt hB.2.1 w) (by omega)
  have hB := th_NR_s hB hB1 u27 n270 (by omega) oq27
  have hIN := th_IN_s hIN u27 oq27
  have n27 : ¬ th_MR G Γ9 H27 b27 := fun w => n270 (th_MR_s u27 oq27 w)
  have lb27 : H0.size ≤ b27 := by omega
  have ho := tc_OBo ho oq27 (by omega)
  have k18xx := tm_MAo k18x oq27 (of_ne of_b18 of_b27 (by decide))
  have n18xx : ¬ th_MR G Γ9 H27 b18 := fun w => n18x (th_MR_s u27 oq27 w)
  have hs : H27.size = H0.size + 10 := by omega
  refine tc_putF hC cf_X8 hB.1 ho (j := 2) (by decide) rfl hnm rfl rfl kf_X8_24 dX8_init_29 (fun H29 locs hB1 ho z29 oq29 => ?_)
  have hu := hB.1.2.2.2.2.1
  have hB := th_NR_s hB hB1 hu hB.2.2.1 (by omega) oq29
  have hIN := th_IN_s hIN hu oq29
  have k18xxx := tm_MAo k18xx oq29 (of_n0 of_b18 (by decide))
  have n18xxx : ¬ th_MR G Γ9 H29 b18 := fun w => n18xx (th_MR_s hu oq29 w)
  have k27x := tm_MAo k27 oq29 (of_n0 of_b27 (by decide))
  have n27x : ¬ th_MR G Γ9 H29 b27 := fun w => n27 (th_MR_s hu oq29 w)
  have hs : H29.size = H0.size + 10 := by omega
  refine lv_aload_n hx hb dX8_init_32 rfl (lv_at hl 0 rfl) ?_
  refine lv_bipush (v := 6) hx hb dX8_init_33 (by decide) ?_
  refine tc_newa (ty := .int) (t := 0) hC hB.1 rfl rfl rfl kw_104 (N := 6) tk_6 (by decide) (Nat.le_of_ble_eq_true rfl) (Nat.le_of_ble_eq_true rfl) dX8_init_35 (fun b35 H35 eb35 zb35 oq35 hB1 k35 => ?_)
  have u35 := k35.2.1
  have of_b35 : b35 = a0 + 11 := by omega
  have n350 : ¬ th_MR G Γ9 H29 b35 := fun w => absurd (th_MR_lt hB.2.1 w) (by omega)
  have hB := th_NR_s hB hB1 u35 n350 (by omega) oq35
  have hIN := th_IN_s hIN u35 oq35
  have n35 : ¬ th_MR G Γ9 H35 b35 := fun w => n350 (th_MR_s u35 oq35 w)
  have lb35 : H0.size ≤ b35 := by omega
  have ho := tc_OBo ho oq35 (by omega)
  have k18xxxx := tm_MAo k18xxx oq35 (of_ne of_b18 of_b35 (by decide))
  have n18xxxx : ¬ th_MR G Γ9 H35 b18 := fun w => n18xxx (th_MR_s u35 oq35 w)
  have k27xx := tm_MAo k27x oq35 (of_ne of_b27 of_b35 (by decide))
  have n27xx : ¬ th_MR G Γ9 H35 b27 := fun w => n27x (th_MR_s u35 oq35 w)
  have hs : H35.size = H0.size + 11 := by omega
  refine tc_putF hC cf_X8 hB.1 ho (j := 3) (by decide) rfl hnm rfl rfl kf_X8_28 dX8_init_37 (fun H37 locs hB1 ho z37 oq37 => ?_)
  have hu := hB.1.2.2.2.2.1
  have hB := th_NR_s hB hB1 hu hB.2.2.1 (by omega) oq37
  have hIN := th_IN_s hIN hu oq37
  have k18xxxxx := tm_MAo k18xxxx oq37 (of_n0 of_b18 (by decide))
  have n18xxxxx : ¬ th_MR G Γ9 H37 b18 := fun w => n18xxxx (th_MR_s hu oq37 w)
  have k27xxx := tm_MAo k27xx oq37 (of_n0 of_b27 (by decide))
  have n27xxx : ¬ th_MR G Γ9 H37 b27 := fun w => n27xx (th_MR_s hu oq37 w)
  have k35x := tm_MAo k35 oq37 (of_n0 of_b35 (by decide))
  have n35x : ¬ th_MR G Γ9 H37 b35 := fun w => n35 (th_MR_s hu oq37 w)
  have hs : H37.size = H0.size + 11 := by omega
  refine lv_aload_n hx hb dX8_init_40 rfl (lv_at hl 0 rfl) ?_
  refine lv_bipush (v := 6) hx hb dX8_init_41 (by decide) ?_
  refine tc_newa (ty := .int) (t := 0) hC hB.1 rfl rfl rfl kw_104 (N := 6) tk_6 (by decide) (Nat.le_of_ble_eq_true rfl) (Nat.le_of_ble_eq_true rfl) dX8_init_43 (fun b43 H43 eb43 zb43 oq43 hB1 k43 => ?_)
  have u43 := k43.2.1
  have of_b43 : b43 = a0 + 12 := by omega
  have n430 : ¬ th_MR G Γ9 H37 b43 := fun w => absurd (th_MR_lt hB.2.1 w) (by omega)
  have hB := th_NR_s hB hB1 u43 n430 (by omega) oq43
  have hIN := th_IN_s hIN u43 oq43
  have n43 : ¬ th_MR G Γ9 H43 b43 := fun w => n430 (th_MR_s u43 oq43 w)
  have lb43 : H0.size ≤ b43 := by omega
  have ho := tc_OBo ho oq43 (by omega)
  have k18xxxxxx := tm_MAo k18xxxxx oq43 (of_ne of_b18 of_b43 (by decide))
  have n18xxxxxx : ¬ th_MR G Γ9 H43 b18 := fun w => n18xxxxx (th_MR_s u43 oq43 w)
  have k27xxxx := tm_MAo k27xxx oq43 (of_ne of_b27 of_b43 (by decide))
  have n27xxxx : ¬ th_MR G Γ9 H43 b27 := fun w => n27xxx (th_MR_s u43 oq43 w)
  have k35xx := tm_MAo k35x oq43 (of_ne of_b35 of_b43 (by decide))
  have n35xx : ¬ th_MR G Γ9 H43 b35 := fun w => n35x (th_MR_s u43 oq43 w)
  have hs : H43.size = H0.size + 12 := by omega
  refine tc_putF hC cf_X8 hB.1 ho (j := 4) (by decide) rfl hnm rfl rfl kf_X8_31 dX8_init_45 (fun H45 locs hB1 ho z45 oq45 => ?_)
  have hu := hB.1.2.2.2.2.1
  have hB := th_NR_s hB hB1 hu hB.2.2.1 (by omega) oq45
  have hIN := th_IN_s hIN hu oq45
  have k18xxxxxxx := tm_MAo k18xxxxxx oq45 (of_n0 of_b18 (by decide))
  have n18xxxxxxx : ¬ th_MR G Γ9 H45 b18 := fun w => n18xxxxxx (th_MR_s hu oq45 w)
  have k27xxxxx := tm_MAo k27xxxx oq45 (of_n0 of_b27 (by decide))
  have n27xxxxx : ¬ th_MR G Γ9 H45 b27 := fun w => n27xxxx (th_MR_s hu oq45 w)
  have k35xxx := tm_MAo k35xx oq45 (of_n0 of_b35 (by decide))
  have n35xxx : ¬ th_MR G Γ9 H45 b35 := fun w => n35xx (th_MR_s hu oq45 w)
  have k43x := tm_MAo k43 oq45 (of_n0 of_b43 (by decide))
  have n43x : ¬ th_MR G Γ9 H45 b43 := fun w => n43 (th_MR_s hu oq45 w)
  have hs : H45.size = H0.size + 12 := by omega
  refine lv_aload_n hx hb dX8_init_48 rfl (lv_at hl 0 rfl) ?_
  refine lv_iconst (v := 0) hx hb dX8_init_49 (by decide) ?_
  refine tc_put hC cf_X8 hB.1 ho (j := 5) (by decide) rfl rfl rfl kf_X8_34 dX8_init_50 (fun H50 locs hB1 ho z50 oq50 => ?_)
  have hu := hB.1.2.2.2.2.1
  have hB := th_NR_s hB hB1 hu hB.2.2.1 (by omega) oq50
  have hIN := th_IN_s hIN hu oq50
  have k18xxxxxxxx := tm_MAo k18xxxxxxx oq50 (of_n0 of_b18 (by decide))
  have n18xxxxxxxx : ¬ th_MR G Γ9 H50 b18 := fun w => n18xxxxxxx (th_MR_s hu oq50 w)
  have k27xxxxxx := tm_MAo k27xxxxx oq50 (of_n0 of_b27 (by decide))
  have n27xxxxxx : ¬ th_MR G Γ9 H50 b27 := fun w => n27xxxxx (th_MR_s hu oq50 w)
  have k35xxxx := tm_MAo k35xxx oq50 (of_n0 of_b35 (by decide))
  have n35xxxx : ¬ th_MR G Γ9 H50 b35 := fun w => n35xxx (th_MR_s hu oq50 w)
  have k43xx := tm_MAo k43x oq50 (of_n0 of_b43 (by decide))
  have n43xx : ¬ th_MR G Γ9 H50 b43 := fun w => n43x (th_MR_s hu oq50 w)
  have hs : H50.size = H0.size + 12 := by omega
  refine lv_aload_n hx hb dX8_init_53 rfl (lv_at hl 0 rfl) ?_
  refine lv_iconst (v := (-1)) hx hb dX8_init_54 (by decide) ?_
  refine tc_put hC cf_X8 hB.1 ho (j := 6) (by decide) rfl rfl rfl kf_X8_38 dX8_init_55 (fun H55 locs hB1 ho z55 oq55 => ?_)
  have hu := hB.1.2.2.2.2.1
  have hB := th_NR_s hB hB1 hu hB.2.2.1 (by omega) oq55
  have hIN := th_IN_s hIN hu oq55
  have k18xxxxxxxxx := tm_MAo k18xxxxxxxx oq55 (of_n0 of_b18 (by decide))
  have n18xxxxxxxxx : ¬ th_MR G Γ9 H55 b18 := fun w => n18xxxxxxxx (th_MR_s hu oq55 w)
  have k27xxxxxxx := tm_MAo k27xxxxxx oq55 (of_n0 of_b27 (by decide))
  have n27xxxxxxx : ¬ th_MR G Γ9 H55 b27 := fun w => n27xxxxxx (th_MR_s hu oq55 w)
  have k35xxxxx := tm_MAo k35xxxx oq55 (of_n0 of_b35 (by decide))
  have n35xxxxx : ¬ th_MR G Γ9 H55 b35 := fun w => n35xxxx (th_MR_s hu oq55 w)
  have k43xxx := tm_MAo k43xx oq55 (of_n0 of_b43 (by decide))
  have n43xxx : ¬ th_MR G Γ9 H55 b43 := fun w => n43xx (th_MR_s hu oq55 w)
  have hs : H55.size = H0.size + 12 := by omega
  refine lv_aload_n hx hb dX8_init_58 rfl (lv_at hl 0 rfl) ?_
  refine lv_iconst (v := 0) hx hb dX8_init_59 (by decide) ?_
  refine tc_put hC cf_X8 hB.1 ho (j := 7) (by decide) rfl rfl rfl kf_X8_41 dX8_init_60 (fun H60 locs hB1 ho z60 oq60 => ?_)
  have hu := hB.1.2.2.2.2.1
  have hB := th_NR_s hB hB1 hu hB.2.2.1 (by omega) oq60
  have hIN := th_IN_s hIN hu oq60
  have k18xxxxxxxxxx := tm_MAo k18xxxxxxxxx oq60 (of_n0 of_b18 (by decide))
  have n18xxxxxxxxxx : ¬ th_MR G Γ9 H60 b18 := fun w => n18xxxxxxxxx (th_MR_s hu oq60 w)
  have k27xxxxxxxx := tm_MAo k27xxxxxxx oq60 (of_n0 of_b27 (by decide))
  have n27xxxxxxxx : ¬ th_MR G Γ9 H60 b27 := fun w => n27xxxxxxx (th_MR_s hu oq60 w)
  have k35xxxxxx := tm_MAo k35xxxxx oq60 (of_n0 of_b35 (by decide))
  have n35xxxxxx : ¬ th_MR G Γ9 H60 b35 := fun w => n35xxxxx (th_MR_s hu oq60 w)
  have k43xxxx := tm_MAo k43xxx oq60 (of_n0 of_b43 (by decide))
  have n43xxxx : ¬ th_MR G Γ9 H60 b43 := fun w => n43xxx (th_MR_s hu oq60 w)
  have hs : H60.size = H0.size + 12 := by omega
  refine lv_iconst (v := 0) hx hb dX8_init_63 (by decide) ?_
  refine lv_istore_n (lv' := [(1, .int 0), (0, .ref a0)]) hx hb dX8_init_64 rfl hl (by decide) rfl (fun ls hl => ?_)
  refine lv_iload_n hx hb dX8_init_65 rfl (lv_at hl 0 rfl) ?_
  refine lv_bipush (v := 6) hx hb dX8_init_66 (by decide) ?_
  refine tr_icmp_ge (tgt := 90) hx hb dX8_init_68 (by decide) tk_0 tk_6 (fun c => absurd c (by decide)) (fun _ => ?_)
  refine lv_aload_n hx hb dX8_init_71 rfl (lv_at hl 1 rfl) ?_
  refine tc_get hC cf_X8 ho (j := 1) (by decide) rfl kf_X8_20 dX8_init_72 ?_
  refine lv_iload_n hx hb dX8_init_75 rfl (lv_at hl 0 rfl) ?_
  refine tc_new hC cf_X10 hB.1 kw_105 kw_107 kw_4 (Nat.le_of_ble_eq_true rfl) (Nat.le_of_ble_eq_true rfl) dX8_init_76 (fun b76 H76 eb76 zb76 oq76 hB1 kn => ?_)
  have of_b76 : b76 = a0 + 13 := by omega
  have n760 : ¬ th_MR G Γ9 H60 b76 := fun w => absurd (th_MR_lt hB.2.1 w) (by omega)
  have u76 := kn.1
  have hB := th_NR_s hB hB1 u76 n760 (by omega) oq76
  have hIN := th_IN_s hIN u76 oq76
  have nb : ¬ th_MR G Γ9 H76 b76 := fun w => n760 (th_MR_s u76 oq76 w)
  have ho := tc_OBo ho oq76 (by omega)
  have k18xxxxxxxxxxx := tm_MAo k18xxxxxxxxxx oq76 (of_ne of_b18 of_b76 (by decide))
  have n18xxxxxxxxxxx : ¬ th_MR G Γ9 H76 b18 := fun w => n18xxxxxxxxxx (th_MR_s u76 oq76 w)
  have k27xxxxxxxxx := tm_MAo k27xxxxxxxx oq76 (of_ne of_b27 of_b76 (by decide))
  have n27xxxxxxxxx : ¬ th_MR G Γ9 H76 b27 := fun w => n27xxxxxxxx (th_MR_s u76 oq76 w)
  have k35xxxxxxx := tm_MAo k35xxxxxx oq76 (of_ne of_b35 of_b76 (by decide))
  have n35xxxxxxx : ¬ th_MR G Γ9 H76 b35 := fun w => n35xxxxxx (th_MR_s u76 oq76 w)
  have k43xxxxx := tm_MAo k43xxxx oq76 (of_ne of_b43 of_b76 (by decide))
  have n43xxxxx : ¬ th_MR G Γ9 H76 b43 := fun w => n43xxxx (th_MR_s u76 oq76 w)
  have lbn : H0.size ≤ b76 := by omega
  have ltn : b76 < H76.size := by omega
  have szn : G.2.2 ≤ b76 := by have q9 := hB.1.2.2.2.2.2.1; have q8 := hB.1.2.2.2.2.2.2; omega
  have hs : H76.size = H0.size + 13 := by omega
  refine lv_dup hx hb dX8_init_79 rfl ?_
  refine th_call (th_runI (As := []) (rest := [.ref b76, .int 0, .ref b18]) hC mf_X10_init km_X8_44 im_X10_init rfl (c_X10_init_i l G Γ9 H76 hB.1.1 hB.2.1 b76 kn szn ltn nb (by omega)) rfl rfl ⟨Nat.le_of_ble_eq_true rfl, Nat.le_of_ble_eq_true rfl⟩ rfl hl.1 rfl (Nat.le_of_ble_eq_true rfl) dX8_init_80 ⟨Nat.le_of_ble_eq_true rfl, Nat.le_of_ble_eq_true rfl⟩) hB.1.2.1 (fun v80 H80 locs hp hz hS => ?_)
  obtain ⟨rfl, Γ80, hy, hi, hzn⟩ := hp
  have hB := th_NR_c hB hy lbn hS
  have hIN := th_IN_c hIN hy hi
  have ho := tc_OBc ho hy (by omega) (by omega)
  have n18xxxxxxxxxxxx : ¬ th_MR G Γ80 H80 b18 := fun w => (hy.2.2.2.1 _ w).elim n18xxxxxxxxxxx (fun w => absurd w (by have q9 := (of_lt hz1 hs of_b18 (by decide)); omega))
  have k18xxxxxxxxxxxx := tc_MAc k18xxxxxxxxxxx hy (of_ne of_b18 of_b76 (by decide))
  have n27xxxxxxxxxx : ¬ th_MR G Γ80 H80 b27 := fun w => (hy.2.2.2.1 _ w).elim n27xxxxxxxxx (fun w => absurd w (by have q9 := (of_lt hz1 hs of_b27 (by decide)); omega))
  have k27xxxxxxxxxx := tc_MAc k27xxxxxxxxx hy (of_ne of_b27 of_b76 (by decide))
  have n35xxxxxxxx : ¬ th_MR G Γ80 H80 b35 := fun w => (hy.2.2.2.1 _ w).elim n35xxxxxxx (fun w => absurd w (by have q9 := (of_lt hz1 hs of_b35 (by decide)); omega))
  have k35xxxxxxxx := tc_MAc k35xxxxxxx hy (of_ne of_b35 of_b76 (by decide))
  have n43xxxxxx : ¬ th_MR G Γ80 H80 b43 := fun w => (hy.2.2.2.1 _ w).elim n43xxxxx (fun w => absurd w (by have q9 := (of_lt hz1 hs of_b43 (by decide)); omega))
  have k43xxxxxx := tc_MAc k43xxxxx hy (of_ne of_b43 of_b76 (by decide))
  have hr_b5x := (hy.1.2.2 b5 (of_lt hz1 hs of_b5 (by decide)) (of_ne of_b5 of_b76 (by decide))).1.trans hr_b5
  have hr_b76 := hy.2.2.1
  have hs : H80.size = H0.size + 15 := by omega
  have hN := th_new_c hN hy
  refine W.eq (g2 := F0 m 83 ls [.ref b76, .int 0, .ref b18]) rfl ?_
  refine tc_aast (x := 0) hC hB.1 k18xxxxxxxxxxxx lb18 rfl hr_b76 ro_39 rfl tk_0 (by decide) (by decide) dX8_init_83 (fun H83 locs hB1 kq z83 oq83 => ?_)
  have hq := k18xxxxxxxxxxxx.2.1
  have hB := th_NR_s hB hB1 hq n18xxxxxxxxxxxx (by omega) oq83
  have hIN := th_IN_s hIN hq oq83
  have n18xxxxxxxxxxxxx : ¬ th_MR G Γ80 H83 b18 := fun w => n18xxxxxxxxxxxx (th_MR_s hq oq83 w)
  have ho := tc_OBo ho oq83 (by have q9 := lb18; omega)
  have k27xxxxxxxxxxx := tm_MAo k27xxxxxxxxxx oq83 (fun e => (of_ne of_b18 of_b27 (by decide)) e.symm)
  have n27xxxxxxxxxxx : ¬ th_MR G Γ80 H83 b27 := fun w => n27xxxxxxxxxx (th_MR_s hq oq83 w)
  have k35xxxxxxxxx := tm_MAo k35xxxxxxxx oq83 (fun e => (of_ne of_b18 of_b35 (by decide)) e.symm)
  have n35xxxxxxxxx : ¬ th_MR G Γ80 H83 b35 := fun w => n35xxxxxxxx (th_MR_s hq oq83 w)
  have k43xxxxxxx := tm_MAo k43xxxxxx oq83 (fun e => (of_ne of_b18 of_b43 (by decide)) e.symm)
  have n43xxxxxxx : ¬ th_MR G Γ80 H83 b43 := fun w => n43xxxxxx (th_MR_s hq oq83 w)
  have kz83 := kq
  have hs : H83.size = H0.size + 15 := by omega
  refine tr_iinc (fun z84_1 => [(1, .int z84_1), (0, .ref a0)]) hx hb dX8_init_84 hl (k := 0) rfl tk_0 tk_1 (by decide) (by decide) (by decide) (fun _ => rfl) (fun z84_1 ls ez84_1 hl => ?_)
  have pz84_1 : z84_1.toInt = 1 := ez84_1
  refine lv_goto (tgt := 65) hx hb dX8_init_87 (by decide) ?_
  refine lv_iload_n hx hb dX8_init_65 rfl (lv_at hl 0 rfl) ?_
  refine lv_bipush (v := 6) hx hb dX8_init_66 (by decide) ?_
  refine tr_icmp_ge (tgt := 90) hx hb dX8_init_68 (by decide) pz84_1 tk_6 (fun c => absurd c (by decide)) (fun _ => ?_)
  refine lv_aload_n hx hb dX8_init_71 rfl (lv_at hl 1 rfl) ?_
  refine tc_get hC cf_X8 ho (j := 1) (by decide) rfl kf_X8_20 dX8_init_72 ?_
  refine lv_iload_n hx hb dX8_init_75 rfl (lv_at hl 0 rfl) ?_
  refine tc_new hC cf_X10 hB.1 kw_105 kw_107 kw_4 (Nat.le_of_ble_eq_true rfl) (Nat.le_of_ble_eq_true rfl) dX8_init_76 (fun b76_1 H76_1 eb76 zb76 oq76 hB1 kn => ?_)
  have of_b76_1 : b76_1 = a0 + 16 := by omega
  have n760 : ¬ th_MR G Γ80 H83 b76_1 := fun w => absurd (th_MR_lt hB.2.1 w) (by omega)
  have u76 := kn.1
  have hB := th_NR_s hB hB1 u76 n760 (by omega) oq76
  have hIN := th_IN_s hIN u76 oq76
  have nb : ¬ th_MR G Γ80 H76_1 b76_1 := fun w => n760 (th_MR_s u76 oq76 w)
  have ho := tc_OBo ho oq76 (by omega)
  have kz83x := tm_MAo kz83 oq76 (of_ne of_b18 of_b76_1 (by decide))
  have n18xxxxxxxxxxxxxx : ¬ th_MR G Γ80 H76_1 b18 := fun w => n18xxxxxxxxxxxxx (th_MR_s u76 oq76 w)
  have k27xxxxxxxxxxxx := tm_MAo k27xxxxxxxxxxx oq76 (of_ne of_b27 of_b76_1 (by decide))
  have n27xxxxxxxxxxxx : ¬ th_MR G Γ80 H76_1 b27 := fun w => n27xxxxxxxxxxx (th_MR_s u76 oq76 w)
  have k35xxxxxxxxxx := tm_MAo k35xxxxxxxxx oq76 (of_ne of_b35 of_b76_1 (by decide))
  have n35xxxxxxxxxx : ¬ th_MR G Γ80 H76_1 b35 := fun w => n35xxxxxxxxx (th_MR_s u76 oq76 w)
  have k43xxxxxxxx := tm_MAo k43xxxxxxx oq76 (of_ne of_b43 of_b76_1 (by decide))
  have n43xxxxxxxx : ¬ th_MR G Γ80 H76_1 b43 := fun w => n43xxxxxxx (th_MR_s u76 oq76 w)
  have lbn : H0.size ≤ b76_1 := by omega
  have ltn : b76_1 < H76_1.size := by omega
  have szn : G.2.2 ≤ b76_1 := by have q9 := hB.1.2.2.2.2.2.1; have q8 := hB.1.2.2.2.2.2.2; omega
  have hs : H76_1.size = H0.size + 16 := by omega
  refine lv_dup hx hb dX8_init_79 rfl ?_
  refine th_call (th_runI (As := []) (rest := [.ref b76_1, .int z84_1, .ref b18]) hC mf_X10_init km_X8_44 im_X10_init rfl (c_X10_init_i l G Γ80 H76_1 hB.1.1 hB.2.1 b76_1 kn szn ltn nb (by omega)) rfl rfl ⟨Nat.le_of_ble_eq_true rfl, Nat.le_of_ble_eq_true rfl⟩ rfl hl.1 rfl (Nat.le_of_ble_eq_true rfl) dX8_init_80 ⟨Nat.le_of_ble_eq_true rfl, Nat.le_of_ble_eq_true rfl⟩) hB.1.2.1 (fun v80 H80_1 locs hp hz hS => ?_)
  obtain ⟨rfl, Γ80_1, hy, hi, hzn⟩ := hp
  have hB := th_NR_c hB hy lbn hS
  have hIN := th_IN_c hIN hy hi
  have ho := tc_OBc ho hy (by omega) (by omega)
  have n18xxxxxxxxxxxxxxx : ¬ th_MR G Γ80_1 H80_1 b18 := fun w => (hy.2.2.2.1 _ w).elim n18xxxxxxxxxxxxxx (fun w => absurd w (by have q9 := (of_lt hz1 hs of_b18 (by decide)); omega))
  have kz83xx := tc_MAc kz83x hy (of_ne of_b18 of_b76_1 (by decide))
  have n27xxxxxxxxxxxxx : ¬ th_MR G Γ80_1 H80_1 b27 := fun w => (hy.2.2.2.1 _ w).elim n27xxxxxxxxxxxx (fun w => absurd w (by have q9 := (of_lt hz1 hs of_b27 (by decide)); omega))
  have k27xxxxxxxxxxxxx := tc_MAc k27xxxxxxxxxxxx hy (of_ne of_b27 of_b76_1 (by decide))
  have n35xxxxxxxxxxx : ¬ th_MR G Γ80_1 H80_1 b35 := fun w => (hy.2.2.2.1 _ w).elim n35xxxxxxxxxx (fun w => absurd w (by have q9 := (of_lt hz1 hs of_b35 (by decide)); omega))
  have k35xxxxxxxxxxx := tc_MAc k35xxxxxxxxxx hy (of_ne of_b35 of_b76_1 (by decide))
  have n43xxxxxxxxx : ¬ th_MR G Γ80_1 H80_1 b43 := fun w => (hy.2.2.2.1 _ w).elim n43xxxxxxxx (fun w => absurd w (by have q9 := (of_lt hz1 hs of_b43 (by decide)); omega))
  have k43xxxxxxxxx := tc_MAc k43xxxxxxxx hy (of_ne of_b43 of_b76_1 (by decide))
  have hr_b5xx := (hy.1.2.2 b5 (of_lt hz1 hs of_b5 (by decide)) (of_ne of_b5 of_b76_1 (by decide))).1.trans hr_b5x
  have hr_b76x := (hy.1.2.2 b76 (of_lt hz1 hs of_b76 (by decide)) (of_ne of_b76 of_b76_1 (by decide))).1.trans hr_b76
  have hr_b76_1 := hy.2.2.1
  have hs : H80_1.size = H0.size + 18 := by omega
  have hN := th_new_c hN hy
  refine W.eq (g2 := F0 m 83 ls [.ref b76_1, .int z84_1, .ref b18]) rfl ?_
  refine tc_aast (x := 1) hC hB.1 kz83xx lb18 rfl hr_b76_1 ro_39 rfl pz84_1 (by decide) (by decide) dX8_init_83 (fun H83_1 locs hB1 kq z83 oq83 => ?_)
  have hq := kz83xx.2.1
  have hB := th_NR_s hB hB1 hq n18xxxxxxxxxxxxxxx (by omega) oq83
  have hIN := th_IN_s hIN hq oq83
  have n18xxxxxxxxxxxxxxxx : ¬ th_MR G Γ80_1 H83_1 b18 := fun w => n18xxxxxxxxxxxxxxx (th_MR_s hq oq83 w)
  have ho := tc_OBo ho oq83 (by have q9 := lb18; omega)
  have k27xxxxxxxxxxxxxx := tm_MAo k27xxxxxxxxxxxxx oq83 (fun e => (of_ne of_b18 of_b27 (by decide)) e.symm)
  have n27xxxxxxxxxxxxxx : ¬ th_MR G Γ80_1 H83_1 b27 := fun w => n27xxxxxxxxxxxxx (th_MR_s hq oq83 w)
  have k35xxxxxxxxxxxx := tm_MAo k35xxxxxxxxxxx oq83 (fun e => (of_ne of_b18 of_b35 (by decide)) e.symm)
  have n35xxxxxxxxxxxx : ¬ th_MR G Γ80_1 H83_1 b35 := fun w => n35xxxxxxxxxxx (th_MR_s hq oq83 w)
  have k43xxxxxxxxxx := tm_MAo k43xxxxxxxxx oq83 (fun e => (of_ne of_b18 of_b43 (by decide)) e.symm)
  have n43xxxxxxxxxx : ¬ th_MR G Γ80_1 H83_1 b43 := fun w => n43xxxxxxxxx (th_MR_s hq oq83 w)
  have kz83_1 := kq
  have hs : H83_1.size = H0.size + 18 := by omega
  refine tr_iinc (fun z84_2 => [(1, .int z84_2), (0, .ref a0)]) hx hb dX8_init_84 hl (k := 0) rfl pz84_1 tk_1 (by decide) (by decide) (by decide) (fun _ => rfl) (fun z84_2 ls ez84_2 hl => ?_)
  have pz84_2 : z84_2.toInt = 2 := ez84_2
  refine lv_goto (tgt := 65) hx hb dX8_init_87 (by decide) ?_
  refine lv_iload_n hx hb dX8_init_65 rfl (lv_at hl 0 rfl) ?_
  refine lv_bipush (v := 6) hx hb dX8_init_66 (by decide) ?_
  refine tr_icmp_ge (tgt := 90) hx hb dX8_init_68 (by decide) pz84_2 tk_6 (fun c => absurd c (by decide)) (fun _ => ?_)
  refine lv_aload_n hx hb dX8_init_71 rfl (lv_at hl 1 rfl) ?_
  refine tc_get hC cf_X8 ho (j := 1) (by decide) rfl kf_X8_20 dX8_init_72 ?_
  refine lv_iload_n hx hb dX8_init_75 rfl (lv_at hl 0 rfl) ?_
  refine tc_new hC cf_X10 hB.1 kw_105 kw_107 kw_4 (Nat.le_of_ble_eq_true rfl) (Nat.le_of_ble_eq_true rfl) dX8_init_76 (fun b76_2 H76_2 eb76 zb76 oq76 hB1 kn => ?_)
  have of_b76_2 : b76_2 = a0 + 19 := by omega
  have n760 : ¬ th_MR G Γ80_1 H83_1 b76_2 := fun w => absurd (th_MR_lt hB.2.1 w) (by omega)
  have u76 := kn.1
  have hB := th_NR_s hB hB1 u76 n760 (by omega) oq76
  have hIN := th_IN_s hIN u76 oq76
  have nb : ¬ th_MR G Γ80_1 H76_2 b76_2 := fun w => n760 (th_MR_s u76 oq76 w)
  have ho := tc_OBo ho oq76 (by omega)
  have kz83_1x := tm_MAo kz83_1 oq76 (of_ne of_b18 of_b76_2 (by decide))
  have n18xxxxxxxxxxxxxxxxx : ¬ th_MR G Γ80_1 H76_2 b18 := fun w => n18xxxxxxxxxxxxxxxx (th_MR_s u76 oq76 w)
  have k27xxxxxxxxxxxxxxx := tm_MAo k27xxxxxxxxxxxxxx oq76 (of_ne of_b27 of_b76_2 (by decide))
  have n27xxxxxxxxxxxxxxx : ¬ th_MR G Γ80_1 H76_2 b27 := fun w => n27xxxxxxxxxxxxxx (th_MR_s u76 oq76 w)
  have k35xxxxxxxxxxxxx := tm_MAo k35xxxxxxxxxxxx oq76 (of_ne of_b35 of_b76_2 (by decide))
  have n35xxxxxxxxxxxxx : ¬ th_MR G Γ80_1 H76_2 b35 := fun w => n35xxxxxxxxxxxx (th_MR_s u76 oq76 w)
  have k43xxxxxxxxxxx := tm_MAo k43xxxxxxxxxx oq76 (of_ne of_b43 of_b76_2 (by decide))
  have n43xxxxxxxxxxx : ¬ th_MR G Γ80_1 H76_2 b43 := fun w => n43xxxxxxxxxx (th_MR_s u76 oq76 w)
  have lbn : H0.size ≤ b76_2 := by omega
  have ltn : b76_2 < H76_2.size := by omega
  have szn : G.2.2 ≤ b76_2 := by have q9 := hB.1.2.2.2.2.2.1; have q8 := hB.1.2.2.2.2.2.2; omega
  have hs : H76_2.size = H0.size + 19 := by omega
  refine lv_dup hx hb dX8_init_79 rfl ?_
  refine th_call (th_runI (As := []) (rest := [.ref b76_2, .int z84_2, .ref b18]) hC mf_X10_init km_X8_44 im_X10_init rfl (c_X10_init_i l G Γ80_1 H76_2 hB.1.1 hB.2.1 b76_2 kn szn ltn nb (by omega)) rfl rfl ⟨Nat.le_of_ble_eq_true rfl, Nat.le_of_ble_eq_true rfl⟩ rfl hl.1 rfl (Nat.le_of_ble_eq_true rfl) dX8_init_80 ⟨Nat.le_of_ble_eq_true rfl, Nat.le_of_ble_eq_true rfl⟩) hB.1.2.1 (fun v80 H80_2 locs hp hz hS => ?_)
  obtain ⟨rfl, Γ80_2, hy, hi, hzn⟩ := hp
  have hB := th_NR_c hB hy lbn hS
  have hIN := th_IN_c hIN hy hi
  have ho := tc_OBc ho hy (by omega) (by omega)
  have n18xxxxxxxxxxxxxxxxxx : ¬ th_MR G Γ80_2 H80_2 b18 := fun w => (hy.2.2.2.1 _ w).elim n18xxxxxxxxxxxxxxxxx (fun w => absurd w (by have q9 := (of_lt hz1 hs of_b18 (by decide)); omega))
  have kz83_1xx := tc_MAc kz83_1x hy (of_ne of_b18 of_b76_2 (by decide))
  have n27xxxxxxxxxxxxxxxx : ¬ th_MR G Γ80_2 H80_2 b27 := fun w => (hy.2.2.2.1 _ w).elim n27xxxxxxxxxxxxxxx (fun w => absurd w (by have q9 := (of_lt hz1 hs of_b27 (by decide)); omega))
  have k27xxxxxxxxxxxxxxxx := tc_MAc k27xxxxxxxxxxxxxxx hy (of_ne of_b27 of_b76_2 (by decide))
  have n35xxxxxxxxxxxxxx : ¬ th_MR G Γ80_2 H80_2 b35 := fun w => (hy.2.2.2.1 _ w).elim n35xxxxxxxxxxxxx (fun w => absurd w (by have q9 := (of_lt hz1 hs of_b35 (by decide)); omega))
  have k35xxxxxxxxxxxxxx := tc_MAc k35xxxxxxxxxxxxx hy (of_ne of_b35 of_b76_2 (by decide))
  have n43xxxxxxxxxxxx : ¬ th_MR G Γ80_2 H80_2 b43 := fun w => (hy.2.2.2.1 _ w).elim n43xxxxxxxxxxx (fun w => absurd w (by have q9 := (of_lt hz1 hs of_b43 (by decide)); omega))
  have k43xxxxxxxxxxxx := tc_MAc k43xxxxxxxxxxx hy (of_ne of_b43 of_b76_2 (by decide))
  have hr_b5xxx := (hy.1.2.2 b5 (of_lt hz1 hs of_b5 (by decide)) (of_ne of_b5 of_b76_2 (by decide))).1.trans hr_b5xx
  have hr_b76xx := (hy.1.2.2 b76 (of_lt hz1 hs of_b76 (by decide)) (of_ne of_b76 of_b76_2 (by decide))).1.trans hr_b76x
  have hr_b76_1x := (hy.1.2.2 b76_1 (of_lt hz1 hs of_b76_1 (by decide)) (of_ne of_b76_1 of_b76_2 (by decide))).1.trans hr_b76_1
  have hr_b76_2 := hy.2.2.1
  have hs : H80_2.size = H0.size + 21 := by omega
  have hN := th_new_c hN hy
  refine W.eq (g2 := F0 m 83 ls [.ref b76_2, .int z84_2, .ref b18]) rfl ?_
  refine tc_aast (x := 2) hC hB.1 kz83_1xx lb18 rfl hr_b76_2 ro_39 rfl pz84_2 (by decide) (by decide) dX8_init_83 (fun H83_2 locs hB1 kq z83 oq83 => ?_)
  have hq := kz83_1xx.2.1
  have hB := th_NR_s hB hB1 hq n18xxxxxxxxxxxxxxxxxx (by omega) oq83
  have hIN := th_IN_s hIN hq oq83
  have n18xxxxxxxxxxxxxxxxxxx : ¬ th_MR G Γ80_2 H83_2 b18 := fun w => n18xxxxxxxxxxxxxxxxxx (th_MR_s hq oq83 w)
  have ho := tc_OBo ho oq83 (by have q9 := lb18; omega)
  have k27xxxxxxxxxxxxxxxxx := tm_MAo k27xxxxxxxxxxxxxxxx oq83 (fun e => (of_ne of_b18 of_b27 (by decide)) e.symm)
  have n27xxxxxxxxxxxxxxxxx : ¬ th_MR G Γ80_2 H83_2 b27 := fun w => n27xxxxxxxxxxxxxxxx (th_MR_s hq oq83 w)
  have k35xxxxxxxxxxxxxxx := tm_MAo k35xxxxxxxxxxxxxx oq83 (fun e => (of_ne of_b18 of_b35 (by decide)) e.symm)
  have n35xxxxxxxxxxxxxxx : ¬ th_MR G Γ80_2 H83_2 b35 := fun w => n35xxxxxxxxxxxxxx (th_MR_s hq oq83 w)
  have k43xxxxxxxxxxxxx := tm_MAo k43xxxxxxxxxxxx oq83 (fun e => (of_ne of_b18 of_b43 (by decide)) e.symm)
  have n43xxxxxxxxxxxxx : ¬ th_MR G Γ80_2 H83_2 b43 := fun w => n43xxxxxxxxxxxx (th_MR_s hq oq83 w)
  have kz83_2 := kq
  have hs : H83_2.size = H0.size + 21 := by omega
  refine tr_iinc (fun z84_3 => [(1, .int z84_3), (0, .ref a0)]) hx hb dX8_init_84 hl (k := 0) rfl pz84_2 tk_1 (by decide) (by decide) (by decide) (fun _ => rfl) (fun z84_3 ls ez84_3 hl => ?_)
  have pz84_3 : z84_3.toInt = 3 := ez84_3
  refine lv_goto (tgt := 65) hx hb dX8_init_87 (by decide) ?_
  refine lv_iload_n hx hb dX8_init_65 rfl (lv_at hl 0 rfl) ?_
  refine lv_bipush (v := 6) hx hb dX8_init_66 (by decide) ?_
  refine tr_icmp_ge (tgt := 90) hx hb dX8_init_68 (by decide) pz84_3 tk_6 (fun c => absurd c (by decide)) (fun _ => ?_)
  refine lv_aload_n hx hb dX8_init_71 rfl (lv_at hl 1 rfl) ?_
  refine tc_get hC cf_X8 ho (j := 1) (by decide) rfl kf_X8_20 dX8_init_72 ?_
  refine lv_iload_n hx hb dX8_init_75 rfl (lv_at hl 0 rfl) ?_
  refine tc_new hC cf_X10 hB.1 kw_105 kw_107 kw_4 (Nat.le_of_ble_eq_true rfl) (Nat.le_of_ble_eq_true rfl) dX8_init_76 (fun b76_3 H76_3 eb76 zb76 oq76 hB1 kn => ?_)
  have of_b76_3 : b76_3 = a0 + 22 := by omega
  have n760 : ¬ th_MR G Γ80_2 H83_2 b76_3 := fun w => absurd (th_MR_lt hB.2.1 w) (by omega)
  have u76 := kn.1
  have hB := th_NR_s hB hB1 u76 n760 (by omega) oq76
  have hIN := th_IN_s hIN u76 oq76
  have nb : ¬ th_MR G Γ80_2 H76_3 b76_3 := fun w => n760 (th_MR_s u76 oq76 w)
  have ho := tc_OBo ho oq76 (by omega)
  have kz83_2x := tm_MAo kz83_2 oq76 (of_ne of_b18 of_b76_3 (by decide))
  have n18xxxxxxxxxxxxxxxxxxxx : ¬ th_MR G Γ80_2 H76_3 b18 := fun w => n18xxxxxxxxxxxxxxxxxxx (th_MR_s u76 oq76 w)
  have k27xxxxxxxxxxxxxxxxxx := tm_MAo k27xxxxxxxxxxxxxxxxx oq76 (of_ne of_b27 of_b76_3 (by decide))
  have n27xxxxxxxxxxxxxxxxxx : ¬ th_MR G Γ80_2 H76_3 b27 := fun w => n27xxxxxxxxxxxxxxxxx (th_MR_s u76 oq76 w)
  have k35xxxxxxxxxxxxxxxx := tm_MAo k35xxxxxxxxxxxxxxx oq76 (of_ne of_b35 of_b76_3 (by decide))
  have n35xxxxxxxxxxxxxxxx : ¬ th_MR G Γ80_2 H76_3 b35 := fun w => n35xxxxxxxxxxxxxxx (th_MR_s u76 oq76 w)
  have k43xxxxxxxxxxxxxx := tm_MAo k43xxxxxxxxxxxxx oq76 (of_ne of_b43 of_b76_3 (by decide))
  have n43xxxxxxxxxxxxxx : ¬ th_MR G Γ80_2 H76_3 b43 := fun w => n43xxxxxxxxxxxxx (th_MR_s u76 oq76 w)
  have lbn : H0.size ≤ b76_3 := by omega
  have ltn : b76_3 < H76_3.size := by omega
  have szn : G.2.2 ≤ b76_3 := by have q9 := hB.1.2.2.2.2.2.1; have q8 := hB.1.2.2.2.2.2.2; omega
  have hs : H76_3.size = H0.size + 22 := by omega
  refine lv_dup hx hb dX8_init_79 rfl ?_
  refine th_call (th_runI (As := []) (rest := [.ref b76_3, .int z84_3, .ref b18]) hC mf_X10_init km_X8_44 im_X10_init rfl (c_X10_init_i l G Γ80_2 H76_3 hB.1.1 hB.2.1 b76_3 kn szn ltn nb (by omega)) rfl rfl ⟨Nat.le_of_ble_eq_true rfl, Nat.le_of_ble_eq_true rfl⟩ rfl hl.1 rfl (Nat.le_of_ble_eq_true rfl) dX8_init_80 ⟨Nat.le_of_ble_eq_true rfl, Nat.le_of_ble_eq_true rfl⟩) hB.1.2.1 (fun v80 H80_3 locs hp hz hS => ?_)
  obtain ⟨rfl, Γ80_3, hy, hi, hzn⟩ := hp
  have hB := th_NR_c hB hy lbn hS
  have hIN := th_IN_c hIN hy hi
  have ho := tc_OBc ho hy (by omega) (by omega)
  have n18xxxxxxxxxxxxxxxxxxxxx : ¬ th_MR G Γ80_3 H80_3 b18 := fun w => (hy.2.2.2.1 _ w).elim n18xxxxxxxxxxxxxxxxxxxx (fun w => absurd w (by have q9 := (of_lt hz1 hs of_b18 (by decide)); omega))
  have kz83_2xx := tc_MAc kz83_2x hy (of_ne of_b18 of_b76_3 (by decide))
  have n27xxxxxxxxxxxxxxxxxxx : ¬ th_MR G Γ80_3 H80_3 b27 := fun w => (hy.2.2.2.1 _ w).elim n27xxxxxxxxxxxxxxxxxx (fun w => absurd w (by have q9 := (of_lt hz1 hs of_b27 (by decide)); omega))
  have k27xxxxxxxxxxxxxxxxxxx := tc_MAc k27xxxxxxxxxxxxxxxxxx hy (of_ne of_b27 of_b76_3 (by decide))
  have n35xxxxxxxxxxxxxxxxx : ¬ th_MR G Γ80_3 H80_3 b35 := fun w => (hy.2.2.2.1 _ w).elim n35xxxxxxxxxxxxxxxx (fun w => absurd w (by have q9 := (of_lt hz1 hs of_b35 (by decide)); omega))
  have k35xxxxxxxxxxxxxxxxx := tc_MAc k35xxxxxxxxxxxxxxxx hy (of_ne of_b35 of_b76_3 (by decide))
  have n43xxxxxxxxxxxxxxx : ¬ th_MR G Γ80_3 H80_3 b43 := fun w => (hy.2.2.2.1 _ w).elim n43xxxxxxxxxxxxxx (fun w => absurd w (by have q9 := (of_lt hz1 hs of_b43 (by decide)); omega))
  have k43xxxxxxxxxxxxxxx := tc_MAc k43xxxxxxxxxxxxxx hy (of_ne of_b43 of_b76_3 (by decide))
  have hr_b5xxxx := (hy.1.2.2 b5 (of_lt hz1 hs of_b5 (by decide)) (of_ne of_b5 of_b76_3 (by decide))).1.trans hr_b5xxx
  have hr_b76xxx := (hy.1.2.2 b76 (of_lt hz1 hs of_b76 (by decide)) (of_ne of_b76 of_b76_3 (by decide))).1.trans hr_b76xx
  have hr_b76_1xx := (hy.1.2.2 b76_1 (of_lt hz1 hs of_b76_1 (by decide)) (of_ne of_b76_1 of_b76_3 (by decide))).1.trans hr_b76_1x
  have hr_b76_2x := (hy.1.2.2 b76_2 (of_lt hz1 hs of_b76_2 (by decide)) (of_ne of_b76_2 of_b76_3 (by decide))).1.trans hr_b76_2
  have hr_b76_3 := hy.2.2.1
  have hs : H80_3.size = H0.size + 24 := by omega
  have hN := th_new_c hN hy
  refine W.eq (g2 := F0 m 83 ls [.ref b76_3, .int z84_3, .ref b18]) rfl ?_
  refine tc_aast (x := 3) hC hB.1 kz83_2xx lb18 rfl hr_b76_3 ro_39 rfl pz84_3 (by decide) (by decide) dX8_init_83 (fun H83_3 locs hB1 kq z83 oq83 => ?_)
  have hq := kz83_2xx.2.1
  have hB := th_NR_s hB hB1 hq n18xxxxxxxxxxxxxxxxxxxxx (by omega) oq83
  have hIN := th_IN_s hIN hq oq83
  have n18xxxxxxxxxxxxxxxxxxxxxx : ¬ th_MR G Γ80_3 H83_3 b18 := fun w => n18xxxxxxxxxxxxxxxxxxxxx (th_MR_s hq oq83 w)
  have ho := tc_OBo ho oq83 (by have q9 := lb18; omega)
  have k27xxxxxxxxxxxxxxxxxxxx := tm_MAo k27xxxxxxxxxxxxxxxxxxx oq83 (fun e => (of_ne of_b18 of_b27 (by decide)) e.symm)
  have n27xxxxxxxxxxxxxxxxxxxx : ¬ th_MR G Γ80_3 H83_3 b27 := fun w => n27xxxxxxxxxxxxxxxxxxx (th_MR_s hq oq83 w)
  have k35xxxxxxxxxxxxxxxxxx := tm_MAo k35xxxxxxxxxxxxxxxxx oq83 (fun e => (of_ne of_b18 of_b35 (by decide)) e.symm)
  have n35xxxxxxxxxxxxxxxxxx : ¬ th_MR G Γ80_3 H83_3 b35 := fun w => n35xxxxxxxxxxxxxxxxx (th_MR_s hq oq83 w)
  have k43xxxxxxxxxxxxxxxx := tm_MAo k43xxxxxxxxxxxxxxx oq83 (fun e => (of_ne of_b18 of_b43 (by decide)) e.symm)
  have n43xxxxxxxxxxxxxxxx : ¬ th_MR G Γ80_3 H83_3 b43 := fun w => n43xxxxxxxxxxxxxxx (th_MR_s hq oq83 w)
  have kz83_3 := kq
  have hs : H83_3.size = H0.size + 24 := by omega
  refine tr_iinc (fun z84_4 => [(1, .int z84_4), (0, .ref a0)]) hx hb dX8_init_84 hl (k := 0) rfl pz84_3 tk_1 (by decide) (by decide) (by decide) (fun _ => rfl) (fun z84_4 ls ez84_4 hl => ?_)
  have pz84_4 : z84_4.toInt = 4 := ez84_4
  refine lv_goto (tgt := 65) hx hb dX8_init_87 (by decide) ?_
  refine lv_iload_n hx hb dX8_init_65 rfl (lv_at hl 0 rfl) ?_
  refine lv_bipush (v := 6) hx hb dX8_init_66 (by decide) ?_
  refine tr_icmp_ge (tgt := 90) hx hb dX8_init_68 (by decide) pz84_4 tk_6 (fun c => absurd c (by decide)) (fun _ => ?_)
  refine lv_aload_n hx hb dX8_init_71 rfl (lv_at hl 1 rfl) ?_
  refine tc_get hC cf_X8 ho (j := 1) (by decide) rfl kf_X8_20 dX8_init_72 ?_
  refine lv_iload_n hx hb dX8_init_75 rfl (lv_at hl 0 rfl) ?_
  refine tc_new hC cf_X10 hB.1 kw_105 kw_107 kw_4 (Nat.le_of_ble_eq_true rfl) (Nat.le_of_ble_eq_true rfl) dX8_init_76 (fun b76_4 H76_4 eb76 zb76 oq76 hB1 kn => ?_)
  have of_b76_4 : b76_4 = a0 + 25 := by omega
  have n760 : ¬ th_MR G Γ80_3 H83_3 b76_4 := fun w => absurd (th_MR_lt hB.2.1 w) (by omega)
  have u76 := kn.1
  have hB := th_NR_s hB hB1 u76 n760 (by omega) oq76
  have hIN := th_IN_s hIN u76 oq76
  have nb : ¬ th_MR G Γ80_3 H76_4 b76_4 := fun w => n760 (th_MR_s u76 oq76 w)
  have ho := tc_OBo ho oq76 (by omega)
  have kz83_3x := tm_MAo kz83_3 oq76 (of_ne of_b18 of_b76_4 (by decide))
  have n18xxxxxxxxxxxxxxxxxxxxxxx : ¬ th_MR G Γ80_3 H76_4 b18 := fun w => n18xxxxxxxxxxxxxxxxxxxxxx (th_MR_s u76 oq76 w)
  have k27xxxxxxxxxxxxxxxxxxxxx := tm_MAo k27xxxxxxxxxxxxxxxxxxxx oq76 (of_ne of_b27 of_b76_4 (by decide))
  have n27xxxxxxxxxxxxxxxxxxxxx : ¬ th_MR G Γ80_3 H76_4 b27 := fun w => n27xxxxxxxxxxxxxxxxxxxx (th_MR_s u76 oq76 w)
  have k35xxxxxxxxxxxxxxxxxxx := tm_MAo k35xxxxxxxxxxxxxxxxxx oq76 (of_ne of_b35 of_b76_4 (by decide))
  have n35xxxxxxxxxxxxxxxxxxx : ¬ th_MR G Γ80_3 H76_4 b35 := fun w => n35xxxxxxxxxxxxxxxxxx (th_MR_s u76 oq76 w)
  have k43xxxxxxxxxxxxxxxxx := tm_MAo k43xxxxxxxxxxxxxxxx oq76 (of_ne of_b43 of_b76_4 (by decide))
  have n43xxxxxxxxxxxxxxxxx : ¬ th_MR G Γ80_3 H76_4 b43 := fun w => n43xxxxxxxxxxxxxxxx (th_MR_s u76 oq76 w)
  have lbn : H0.size ≤ b76_4 := by omega
  have ltn : b76_4 < H76_4.size := by omega
  have szn : G.2.2 ≤ b76_4 := by have q9 := hB.1.2.2.2.2.2.1; have q8 := hB.1.2.2.2.2.2.2; omega
  have hs : H76_4.size = H0.size + 25 := by omega
  refine lv_dup hx hb dX8_init_79 rfl ?_
  refine th_call (th_runI (As := []) (rest := [.ref b76_4, .int z84_4, .ref b18]) hC mf_X10_init km_X8_44 im_X10_init rfl (c_X10_init_i l G Γ80_3 H76_4 hB.1.1 hB.2.1 b76_4 kn szn ltn nb (by omega)) rfl rfl ⟨Nat.le_of_ble_eq_true rfl, Nat.le_of_ble_eq_true rfl⟩ rfl hl.1 rfl (Nat.le_of_ble_eq_true rfl) dX8_init_80 ⟨Nat.le_of_ble_eq_true rfl, Nat.le_of_ble_eq_true rfl⟩) hB.1.2.1 (fun v80 H80_4 locs hp hz hS => ?_)
  obtain ⟨rfl, Γ80_4, hy, hi, hzn⟩ := hp
  have hB := th_NR_c hB hy lbn hS
  have hIN := th_IN_c hIN hy hi
  have ho := tc_OBc ho hy (by omega) (by omega)
  have n18xxxxxxxxxxxxxxxxxxxxxxxx : ¬ th_MR G Γ80_4 H80_4 b18 := fun w => (hy.2.2.2.1 _ w).elim n18xxxxxxxxxxxxxxxxxxxxxxx (fun w => absurd w (by have q9 := (of_lt hz1 hs of_b18 (by decide)); omega))
  have kz83_3xx := tc_MAc kz83_3x hy (of_ne of_b18 of_b76_4 (by decide))
  have n27xxxxxxxxxxxxxxxxxxxxxx : ¬ th_MR G Γ80_4 H80_4 b27 := fun w => (hy.2.2.2.1 _ w).elim n27xxxxxxxxxxxxxxxxxxxxx (fun w => absurd w (by have q9 := (of_lt hz1 hs of_b27 (by decide)); omega))
  have k27xxxxxxxxxxxxxxxxxxxxxx := tc_MAc k27xxxxxxxxxxxxxxxxxxxxx hy (of_ne of_b27 of_b76_4 (by decide))
  have n35xxxxxxxxxxxxxxxxxxxx : ¬ th_MR G Γ80_4 H80_4 b35 := fun w => (hy.2.2.2.1 _ w).elim n35xxxxxxxxxxxxxxxxxxx (fun w => absurd w (by have q9 := (of_lt hz1 hs of_b35 (by decide)); omega))
  have k35xxxxxxxxxxxxxxxxxxxx := tc_MAc k35xxxxxxxxxxxxxxxxxxx hy (of_ne of_b35 of_b76_4 (by decide))
  have n43xxxxxxxxxxxxxxxxxx : ¬ th_MR G Γ80_4 H80_4 b43 := fun w => (hy.2.2.2.1 _ w).elim n43xxxxxxxxxxxxxxxxx (fun w => absurd w (by have q9 := (of_lt hz1 hs of_b43 (by decide)); omega))
  have k43xxxxxxxxxxxxxxxxxx := tc_MAc k43xxxxxxxxxxxxxxxxx hy (of_ne of_b43 of_b76_4 (by decide))
  have hr_b5xxxxx := (hy.1.2.2 b5 (of_lt hz1 hs of_b5 (by decide)) (of_ne of_b5 of_b76_4 (by decide))).1.trans hr_b5xxxx
  have hr_b76xxxx := (hy.1.2.2 b76 (of_lt hz1 hs of_b76 (by decide)) (of_ne of_b76 of_b76_4 (by decide))).1.trans hr_b76xxx
  have hr_b76_1xxx := (hy.1.2.2 b76_1 (of_lt hz1 hs of_b76_1 (by decide)) (of_ne of_b76_1 of_b76_4 (by decide))).1.trans hr_b76_1xx
  have hr_b76_2xx := (hy.1.2.2 b76_2 (of_lt hz1 hs of_b76_2 (by decide)) (of_ne of_b76_2 of_b76_4 (by decide))).1.trans hr_b76_2x
  have hr_b76_3x := (hy.1.2.2 b76_3 (of_lt hz1 hs of_b76_3 (by decide)) (of_ne of_b76_3 of_b76_4 (by decide))).1.trans hr_b76_3
  have hr_b76_4 := hy.2.2.1
  have hs : H80_4.size = H0.size + 27 := by omega
  have hN := th_new_c hN hy
  refine W.eq (g2 := F0 m 83 ls [.ref b76_4, .int z84_4, .ref b18]) rfl ?_
  refine tc_aast (x := 4) hC hB.1 kz83_3xx lb18 rfl hr_b76_4 ro_39 rfl pz84_4 (by decide) (by decide) dX8_init_83 (fun H83_4 locs hB1 kq z83 oq83 => ?_)
  have hq := kz83_3xx.2.1
  have hB := th_NR_s hB hB1 hq n18xxxxxxxxxxxxxxxxxxxxxxxx (by omega) oq83
  have hIN := th_IN_s hIN hq oq83
  have n18xxxxxxxxxxxxxxxxxxxxxxxxx : ¬ th_MR G Γ80_4 H83_4 b18 := fun w => n18xxxxxxxxxxxxxxxxxxxxxxxx (th_MR_s hq oq83 w)
  have ho := tc_OBo ho oq83 (by have q9 := lb18; omega)
  have k27xxxxxxxxxxxxxxxxxxxxxxx := tm_MAo k27xxxxxxxxxxxxxxxxxxxxxx oq83 (fun e => (of_ne of_b18 of_b27 (by decide)) e.symm)
  have n27xxxxxxxxxxxxxxxxxxxxxxx : ¬ th_MR G Γ80_4 H83_4 b27 := fun w => n27xxxxxxxxxxxxxxxxxxxxxx (th_MR_s hq oq83 w)
  have k35xxxxxxxxxxxxxxxxxxxxx := tm_MAo k35xxxxxxxxxxxxxxxxxxxx oq83 (fun e => (of_ne of_b18 of_b35 (by decide)) e.symm)
  have n35xxxxxxxxxxxxxxxxxxxxx : ¬ th_MR G Γ80_4 H83_4 b35 := fun w => n35xxxxxxxxxxxxxxxxxxxx (th_MR_s hq oq83 w)
  have k43xxxxxxxxxxxxxxxxxxx := tm_MAo k43xxxxxxxxxxxxxxxxxx oq83 (fun e => (of_ne of_b18 of_b43 (by decide)) e.symm)
  have n43xxxxxxxxxxxxxxxxxxx : ¬ th_MR G Γ80_4 H83_4 b43 := fun w => n43xxxxxxxxxxxxxxxxxx (th_MR_s hq oq83 w)
  have kz83_4 := kq
  have hs : H83_4.size = H0.size + 27 := by omega
  refine tr_iinc (fun z84_5 => [(1, .int z84_5), (0, .ref a0)]) hx hb dX8_init_84 hl (k := 0) rfl pz84_4 tk_1 (by decide) (by decide) (by decide) (fun _ => rfl) (fun z84_5 ls ez84_5 hl => ?_)
  have pz84_5 : z84_5.toInt = 5 := ez84_5
  refine lv_goto (tgt := 65) hx hb dX8_init_87 (by decide) ?_
  refine lv_iload_n hx hb dX8_init_65 rfl (lv_at hl 0 rfl) ?_
  refine lv_bipush (v := 6) hx hb dX8_init_66 (by decide) ?_
  refine tr_icmp_ge (tgt := 90) hx hb dX8_init_68 (by decide) pz84_5 tk_6 (fun c => absurd c (by decide)) (fun _ => ?_)
  refine lv_aload_n hx hb dX8_init_71 rfl (lv_at hl 1 rfl) ?_
  refine tc_get hC cf_X8 ho (j := 1) (by decide) rfl kf_X8_20 dX8_init_72 ?_
  refine lv_iload_n hx hb dX8_init_75 rfl (lv_at hl 0 rfl) ?_
  refine tc_new hC cf_X10 hB.1 kw_105 kw_107 kw_4 (Nat.le_of_ble_eq_true rfl) (Nat.le_of_ble_eq_true rfl) dX8_init_76 (fun b76_5 H76_5 eb76 zb76 oq76 hB1 kn => ?_)
  have of_b76_5 : b76_5 = a0 + 28 := by omega
  have n760 : ¬ th_MR G Γ80_4 H83_4 b76_5 := fun w => absurd (th_MR_lt hB.2.1 w) (by omega)
  have u76 := kn.1
  have hB := th_NR_s hB hB1 u76 n760 (by omega) oq76
  have hIN := th_IN_s hIN u76 oq76
  have nb : ¬ th_MR G Γ80_4 H76_5 b76_5 := fun w => n760 (th_MR_s u76 oq76 w)
  have ho := tc_OBo ho oq76 (by omega)
  have kz83_4x := tm_MAo kz83_4 oq76 (of_ne of_b18 of_b76_5 (by decide))
  have n18xxxxxxxxxxxxxxxxxxxxxxxxxx : ¬ th_MR G Γ80_4 H76_5 b18 := fun w => n18xxxxxxxxxxxxxxxxxxxxxxxxx (th_MR_s u76 oq76 w)
  have k27xxxxxxxxxxxxxxxxxxxxxxxx := tm_MAo k27xxxxxxxxxxxxxxxxxxxxxxx oq76 (of_ne of_b27 of_b76_5 (by decide))
  have n27xxxxxxxxxxxxxxxxxxxxxxxx : ¬ th_MR G Γ80_4 H76_5 b27 := fun w => n27xxxxxxxxxxxxxxxxxxxxxxx (th_MR_s u76 oq76 w)
  have k35xxxxxxxxxxxxxxxxxxxxxx := tm_MAo k35xxxxxxxxxxxxxxxxxxxxx oq76 (of_ne of_b35 of_b76_5 (by decide))
  have n35xxxxxxxxxxxxxxxxxxxxxx : ¬ th_MR G Γ80_4 H76_5 b35 := fun w => n35xxxxxxxxxxxxxxxxxxxxx (th_MR_s u76 oq76 w)
  have k43xxxxxxxxxxxxxxxxxxxx := tm_MAo k43xxxxxxxxxxxxxxxxxxx oq76 (of_ne of_b43 of_b76_5 (by decide))
  have n43xxxxxxxxxxxxxxxxxxxx : ¬ th_MR G Γ80_4 H76_5 b43 := fun w => n43xxxxxxxxxxxxxxxxxxx (th_MR_s u76 oq76 w)
  have lbn : H0.size ≤ b76_5 := by omega
  have ltn : b76_5 < H76_5.size := by omega
  have szn : G.2.2 ≤ b76_5 := by have q9 := hB.1.2.2.2.2.2.1; have q8 := hB.1.2.2.2.2.2.2; omega
  have hs : H76_5.size = H0.size + 28 := by omega
  refine lv_dup hx hb dX8_init_79 rfl ?_
  refine th_call (th_runI (As := []) (rest := [.ref b76_5, .int z84_5, .ref b18]) hC mf_X10_init km_X8_44 im_X10_init rfl (c_X10_init_i l G Γ80_4 H76_5 hB.1.1 hB.2.1 b76_5 kn szn ltn nb (by omega)) rfl rfl ⟨Nat.le_of_ble_eq_true rfl, Nat.le_of_ble_eq_true rfl⟩ rfl hl.1 rfl (Nat.le_of_ble_eq_true rfl) dX8_init_80 ⟨Nat.le_of_ble_eq_true rfl, Nat.le_of_ble_eq_true rfl⟩) hB.1.2.1 (fun v80 H80_5 locs hp hz hS => ?_)
  obtain ⟨rfl, Γ80_5, hy, hi, hzn⟩ := hp
  have hB := th_NR_c hB hy lbn hS
  have hIN := th_IN_c hIN hy hi
  have ho := tc_OBc ho hy (by omega) (by omega)
  have n18xxxxxxxxxxxxxxxxxxxxxxxxxxx : ¬ th_MR G Γ80_5 H80_5 b18 := fun w => (hy.2.2.2.1 _ w).elim n18xxxxxxxxxxxxxxxxxxxxxxxxxx (fun w => absurd w (by have q9 := (of_lt hz1 hs of_b18 (by decide)); omega))
  have kz83_4xx := tc_MAc kz83_4x hy (of_ne of_b18 of_b76_5 (by decide))
  have n27xxxxxxxxxxxxxxxxxxxxxxxxx : ¬ th_MR G Γ80_5 H80_5 b27 := fun w => (hy.2.2.2.1 _ w).elim n27xxxxxxxxxxxxxxxxxxxxxxxx (fun w => absurd w (by have q9 := (of_lt hz1 hs of_b27 (by decide)); omega))
  have k27xxxxxxxxxxxxxxxxxxxxxxxxx := tc_MAc k27xxxxxxxxxxxxxxxxxxxxxxxx hy (of_ne of_b27 of_b76_5 (by decide))
  have n35xxxxxxxxxxxxxxxxxxxxxxx : ¬ th_MR G Γ80_5 H80_5 b35 := fun w => (hy.2.2.2.1 _ w).elim n35xxxxxxxxxxxxxxxxxxxxxx (fun w => absurd w (by have q9 := (of_lt hz1 hs of_b35 (by decide)); omega))
  have k35xxxxxxxxxxxxxxxxxxxxxxx := tc_MAc k35xxxxxxxxxxxxxxxxxxxxxx hy (of_ne of_b35 of_b76_5 (by decide))
  have n43xxxxxxxxxxxxxxxxxxxxx : ¬ th_MR G Γ80_5 H80_5 b43 := fun w => (hy.2.2.2.1 _ w).elim n43xxxxxxxxxxxxxxxxxxxx (fun w => absurd w (by have q9 := (of_lt hz1 hs of_b43 (by decide)); omega))
  have k43xxxxxxxxxxxxxxxxxxxxx := tc_MAc k43xxxxxxxxxxxxxxxxxxxx hy (of_ne of_b43 of_b76_5 (by decide))
  have hr_b5xxxxxx := (hy.1.2.2 b5 (of_lt hz1 hs of_b5 (by decide)) (of_ne of_b5 of_b76_5 (by decide))).1.trans hr_b5xxxxx
  have hr_b76xxxxx := (hy.1.2.2 b76 (of_lt hz1 hs of_b76 (by decide)) (of_ne of_b76 of_b76_5 (by decide))).1.trans hr_b76xxxx
  have hr_b76_1xxxx := (hy.1.2.2 b76_1 (of_lt hz1 hs of_b76_1 (by decide)) (of_ne of_b76_1 of_b76_5 (by decide))).1.trans hr_b76_1xxx
  have hr_b76_2xxx := (hy.1.2.2 b76_2 (of_lt hz1 hs of_b76_2 (by decide)) (of_ne of_b76_2 of_b76_5 (by decide))).1.trans hr_b76_2xx
  have hr_b76_3xx := (hy.1.2.2 b76_3 (of_lt hz1 hs of_b76_3 (by decide)) (of_ne of_b76_3 of_b76_5 (by decide))).1.trans hr_b76_3x
  have hr_b76_4x := (hy.1.2.2 b76_4 (of_lt hz1 hs of_b76_4 (by decide)) (of_ne of_b76_4 of_b76_5 (by decide))).1.trans hr_b76_4
  have hr_b76_5 := hy.2.2.1
  have hs : H80_5.size = H0.size + 30 := by omega
  have hN := th_new_c hN hy
  refine W.eq (g2 := F0 m 83 ls [.ref b76_5, .int z84_5, .ref b18]) rfl ?_
  refine tc_aast (x := 5) hC hB.1 kz83_4xx lb18 rfl hr_b76_5 ro_39 rfl pz84_5 (by decide) (by decide) dX8_init_83 (fun H83_5 locs hB1 kq z83 oq83 => ?_)
  have hq := kz83_4xx.2.1
  have hB := th_NR_s hB hB1 hq n18xxxxxxxxxxxxxxxxxxxxxxxxxxx (by omega) oq83
  have hIN := th_IN_s hIN hq oq83
  have n18xxxxxxxxxxxxxxxxxxxxxxxxxxxx : ¬ th_MR G Γ80_5 H83_5 b18 := fun w => n18xxxxxxxxxxxxxxxxxxxxxxxxxxx (th_MR_s hq oq83 w)
  have ho := tc_OBo ho oq83 (by have q9 := lb18; omega)
  have k27xxxxxxxxxxxxxxxxxxxxxxxxxx := tm_MAo k27xxxxxxxxxxxxxxxxxxxxxxxxx oq83 (fun e => (of_ne of_b18 of_b27 (by decide)) e.symm)
  have n27xxxxxxxxxxxxxxxxxxxxxxxxxx : ¬ th_MR G Γ80_5 H83_5 b27 := fun w => n27xxxxxxxxxxxxxxxxxxxxxxxxx (th_MR_s hq oq83 w)
  have k35xxxxxxxxxxxxxxxxxxxxxxxx := tm_MAo k35xxxxxxxxxxxxxxxxxxxxxxx oq83 (fun e => (of_ne of_b18 of_b35 (by decide)) e.symm)
  have n35xxxxxxxxxxxxxxxxxxxxxxxx : ¬ th_MR G Γ80_5 H83_5 b35 := fun w => n35xxxxxxxxxxxxxxxxxxxxxxx (th_MR_s hq oq83 w)
  have k43xxxxxxxxxxxxxxxxxxxxxx := tm_MAo k43xxxxxxxxxxxxxxxxxxxxx oq83 (fun e => (of_ne of_b18 of_b43 (by decide)) e.symm)
  have n43xxxxxxxxxxxxxxxxxxxxxx : ¬ th_MR G Γ80_5 H83_5 b43 := fun w => n43xxxxxxxxxxxxxxxxxxxxx (th_MR_s hq oq83 w)
  have kz83_5 := kq
  have hs : H83_5.size = H0.size + 30 := by omega
  refine tr_iinc (fun z84_6 => [(1, .int z84_6), (0, .ref a0)]) hx hb dX8_init_84 hl (k := 0) rfl pz84_5 tk_1 (by decide) (by decide) (by decide) (fun _ => rfl) (fun z84_6 ls ez84_6 hl => ?_)
  have pz84_6 : z84_6.toInt = 6 := ez84_6
  refine lv_goto (tgt := 65) hx hb dX8_init_87 (by decide) ?_
  refine lv_iload_n hx hb dX8_init_65 rfl (lv_at hl 0 rfl) ?_
  refine lv_bipush (v := 6) hx hb dX8_init_66 (by decide) ?_
  refine tr_icmp_ge (tgt := 90) hx hb dX8_init_68 (by decide) pz84_6 tk_6 (fun _ => ?_) (fun c => absurd c (by decide))
  have hI1 := hB.1.1
  have hR1 := hB.2.1
  have hI2 := th_nmA (r := 33) (o := a0) hI1 kz83_5 ro_33 (Nat.le_refl _) (Nat.le_refl _) (fun i hi => by
    match i, hi with
    | 0, _ => exact th_sR hr_b76xxxxx
    | 1, _ => exact th_sR hr_b76_1xxxx
    | 2, _ => exact th_sR hr_b76_2xxx
    | 3, _ => exact th_sR hr_b76_3xx
    | 4, _ => exact th_sR hr_b76_4x
    | 5, _ => exact th_sR hr_b76_5
    | n + 6, h => exact absurd h (by omega))
  have hR1 := th_RC_up hI1 hR1 (x := (33, a0)) kz83_5.2.1 n18xxxxxxxxxxxxxxxxxxxxxxxxxxxx hI2 (fun e => absurd (show (33 : Nat) = 3 from e) (by decide)) (fun e => absurd (show (33 : Nat) = 18 ∨ (33 : Nat) = 19 from e) (by decide)) (show (33 : Nat) ≠ 12 by decide)
  have hI1 := hI2
  have hIN := th_IN_up (b := b18) (x := (33, a0)) hIN (ini_q rfl rfl rfl (fun i d hm => by
    rcases List.mem_cons.mp hm with e | hm
    · cases e; exact (th_sl_at kz83_5.2.2 (arrV_read _ _ (by decide))).trans (congrArg Value.ref (show b76 = b18 + 4 by omega))
    rcases List.mem_cons.mp hm with e | hm
    · cases e; exact (th_sl_at kz83_5.2.2 (arrV_read _ _ (by decide))).trans (congrArg Value.ref (show b76_1 = b18 + 7 by omega))
    rcases List.mem_cons.mp hm with e | hm
    · cases e; exact (th_sl_at kz83_5.2.2 (arrV_read _ _ (by decide))).trans (congrArg Value.ref (show b76_2 = b18 + 10 by omega))
    rcases List.mem_cons.mp hm with e | hm
    · cases e; exact (th_sl_at kz83_5.2.2 (arrV_read _ _ (by decide))).trans (congrArg Value.ref (show b76_3 = b18 + 13 by omega))
    rcases List.mem_cons.mp hm with e | hm
    · cases e; exact (th_sl_at kz83_5.2.2 (arrV_read _ _ (by decide))).trans (congrArg Value.ref (show b76_4 = b18 + 16 by omega))
    rcases List.mem_cons.mp hm with e | hm
    · cases e; exact (th_sl_at kz83_5.2.2 (arrV_read _ _ (by decide))).trans (congrArg Value.ref (show b76_5 = b18 + 19 by omega))
    cases hm))
  have ho := th_OB_up (b := b18) (x := (33, a0)) ho (by have q9 := lb18; omega)
  have k27xxxxxxxxxxxxxxxxxxxxxxxxxxu := th_MA_up (b := b18) (x := (33, a0)) k27xxxxxxxxxxxxxxxxxxxxxxxxxx (fun e => (of_ne of_b18 of_b27 (by decide)) e.symm)
  have n27xxxxxxxxxxxxxxxxxxxxxxxxxxu : ¬ th_MR G (th_up Γ80_5 b18 (33, a0)) H83_5 b27 := fun w => n27xxxxxxxxxxxxxxxxxxxxxxxxxx (th_MR_up (show (33 : Nat) ≠ 12 by decide) w)
  have k35xxxxxxxxxxxxxxxxxxxxxxxxu := th_MA_up (b := b18) (x := (33, a0)) k35xxxxxxxxxxxxxxxxxxxxxxxx (fun e => (of_ne of_b18 of_b35 (by decide)) e.symm)
  have n35xxxxxxxxxxxxxxxxxxxxxxxxu : ¬ th_MR G (th_up Γ80_5 b18 (33, a0)) H83_5 b35 := fun w => n35xxxxxxxxxxxxxxxxxxxxxxxx (th_MR_up (show (33 : Nat) ≠ 12 by decide) w)
  have k43xxxxxxxxxxxxxxxxxxxxxxu := th_MA_up (b := b18) (x := (33, a0)) k43xxxxxxxxxxxxxxxxxxxxxx (fun e => (of_ne of_b18 of_b43 (by decide)) e.symm)
  have n43xxxxxxxxxxxxxxxxxxxxxxu : ¬ th_MR G (th_up Γ80_5 b18 (33, a0)) H83_5 b43 := fun w => n43xxxxxxxxxxxxxxxxxxxxxx (th_MR_up (show (33 : Nat) ≠ 12 by decide) w)
  have hI2 := th_nmA (r := 34) (o := a0) hI1 k27xxxxxxxxxxxxxxxxxxxxxxxxxxu ro_34 (Nat.le_refl _) (Nat.le_refl _) (fun i _ => th_sI (x := 0) (by decide) (by decide))
  have hR1 := th_RC_up hI1 hR1 (x := (34, a0)) k27xxxxxxxxxxxxxxxxxxxxxxxxxxu.2.1 n27xxxxxxxxxxxxxxxxxxxxxxxxxxu hI2 (fun e => absurd (show (34 : Nat) = 3 from e) (by decide)) (fun e => absurd (show (34 : Nat) = 18 ∨ (34 : Nat) = 19 from e) (by decide)) (show (34 : Nat) ≠ 12 by decide)
  have hI1 := hI2
  have hIN := th_IN_up (b := b27) (x := (34, a0)) hIN (ini_r rfl rfl rfl rfl (fun i hi => th_sl_at k27xxxxxxxxxxxxxxxxxxxxxxxxxx.2.2 (arrV_read _ _ hi)))
  have ho := th_OB_up (b := b27) (x := (34, a0)) ho (by have q9 := lb27; omega)
  have k35xxxxxxxxxxxxxxxxxxxxxxxxuu := th_MA_up (b := b27) (x := (34, a0)) k35xxxxxxxxxxxxxxxxxxxxxxxxu (fun e => (of_ne of_b27 of_b35 (by decide)) e.symm)
  have n35xxxxxxxxxxxxxxxxxxxxxxxxuu : ¬ th_MR G (th_up (th_up Γ80_5 b18 (33, a0)) b27 (34, a0)) H83_5 b35 := fun w => n35xxxxxxxxxxxxxxxxxxxxxxxxu (th_MR_up (show (34 : Nat) ≠ 12 by decide) w)
  have k43xxxxxxxxxxxxxxxxxxxxxxuu := th_MA_up (b := b27) (x := (34, a0)) k43xxxxxxxxxxxxxxxxxxxxxxu (fun e => (of_ne of_b27 of_b43 (by decide)) e.symm)
  have n43xxxxxxxxxxxxxxxxxxxxxxuu : ¬ th_MR G (th_up (th_up Γ80_5 b18 (33, a0)) b27 (34, a0)) H83_5 b43 := fun w => n43xxxxxxxxxxxxxxxxxxxxxxu (th_MR_up (show (34 : Nat) ≠ 12 by decide) w)
  have hI2 := th_nmA (r := 35) (o := a0) hI1 k35xxxxxxxxxxxxxxxxxxxxxxxxuu ro_35 (Nat.le_refl _) (Nat.le_refl _) (fun i _ => th_sI (x := 0) (by decide) (by decide))
  have hR1 := th_RC_up hI1 hR1 (x := (35, a0)) k35xxxxxxxxxxxxxxxxxxxxxxxxuu.2.1 n35xxxxxxxxxxxxxxxxxxxxxxxxuu hI2 (fun e => absurd (show (35 : Nat) = 3 from e) (by decide)) (fun e => absurd (show (35 : Nat) = 18 ∨ (35 : Nat) = 19 from e) (by decide)) (show (35 : Nat) ≠ 12 by decide)
  have hI1 := hI2
  have hIN := th_IN_up (b := b35) (x := (35, a0)) hIN (ini_r rfl rfl rfl rfl (fun i hi => th_sl_at k35xxxxxxxxxxxxxxxxxxxxxxxx.2.2 (arrV_read _ _ hi)))
  have ho := th_OB_up (b := b35) (x := (35, a0)) ho (by have q9 := lb35; omega)
  have k43xxxxxxxxxxxxxxxxxxxxxxuuu := th_MA_up (b := b35) (x := (35, a0)) k43xxxxxxxxxxxxxxxxxxxxxxuu (fun e => (of_ne of_b35 of_b43 (by decide)) e.symm)
  have n43xxxxxxxxxxxxxxxxxxxxxxuuu : ¬ th_MR G (th_up (th_up (th_up Γ80_5 b18 (33, a0)) b27 (34, a0)) b35 (35, a0)) H83_5 b43 := fun w => n43xxxxxxxxxxxxxxxxxxxxxxuu (th_MR_up (show (35 : Nat) ≠ 12 by decide) w)
  have hI2 := th_nmA (r := 36) (o := a0) hI1 k43xxxxxxxxxxxxxxxxxxxxxxuuu ro_36 (Nat.le_refl _) (Nat.le_refl _) (fun i _ => th_sI (x := 0) (by decide) (by decide))
  have hR1 := th_RC_up hI1 hR1 (x := (36, a0)) k43xxxxxxxxxxxxxxxxxxxxxxuuu.2.1 n43xxxxxxxxxxxxxxxxxxxxxxuuu hI2 (fun e => absurd (show (36 : Nat) = 3 from e) (by decide)) (fun e => absurd (show (36 : Nat) = 18 ∨ (36 : Nat) = 19 from e) (by decide)) (show (36 : Nat) ≠ 12 by decide)
  have hI1 := hI2
  have hIN := th_IN_up (b := b43) (x := (36, a0)) hIN (ini_r rfl rfl rfl rfl (fun i hi => th_sl_at k43xxxxxxxxxxxxxxxxxxxxxx.2.2 (arrV_read _ _ hi)))
  have ho := th_OB_up (b := b43) (x := (36, a0)) ho (by have q9 := lb43; omega)
  have g_b18 : (th_up (th_up (th_up (th_up Γ80_5 b18 (33, a0)) b27 (34, a0)) b35 (35, a0)) b43 (36, a0)) b18 = (33, a0) := (th_up_n ((of_ne of_b18 of_b43 (by decide)))).trans ((th_up_n ((of_ne of_b18 of_b35 (by decide)))).trans ((th_up_n ((of_ne of_b18 of_b27 (by decide)))).trans (th_up_s)))
  have g_b27 : (th_up (th_up (th_up (th_up Γ80_5 b18 (33, a0)) b27 (34, a0)) b35 (35, a0)) b43 (36, a0)) b27 = (34, a0) := (th_up_n ((of_ne of_b27 of_b43 (by decide)))).trans ((th_up_n ((of_ne of_b27 of_b35 (by decide)))).trans (th_up_s))
  have g_b35 : (th_up (th_up (th_up (th_up Γ80_5 b18 (33, a0)) b27 (34, a0)) b35 (35, a0)) b43 (36, a0)) b35 = (35, a0) := (th_up_n ((of_ne of_b35 of_b43 (by decide)))).trans (th_up_s)
  have g_b43 : (th_up (th_up (th_up (th_up Γ80_5 b18 (33, a0)) b27 (34, a0)) b35 (35, a0)) b43 (36, a0)) b43 = (36, a0) := th_up_s
  have nm0 : ¬ th_MR G (th_up (th_up (th_up (th_up Γ80_5 b18 (33, a0)) b27 (34, a0)) b35 (35, a0)) b43 (36, a0)) H83_5 a0 := fun w => hB.2.2.1 (th_MR_up (show (33 : Nat) ≠ 12 by decide) (th_MR_up (show (34 : Nat) ≠ 12 by decide) (th_MR_up (show (35 : Nat) ≠ 12 by decide) (th_MR_up (show (36 : Nat) ≠ 12 by decide) w))))
  have hI2 := th_nmO (r := 32) hI1 ho hsz ro_32 rfl (fun j q hq => by
    match j, hq with
    | 0, hq => have e9 := Option.some.inj hq; subst e9; exact th_sR ((th_up_n (of_ne of_b5 of_b43 (by decide))).trans ((th_up_n (of_ne of_b5 of_b35 (by decide))).trans ((th_up_n (of_ne of_b5 of_b27 (by decide))).trans ((th_up_n (of_ne of_b5 of_b18 (by decide))).trans hr_b5xxxxxx))))
    | 1, hq => have e9 := Option.some.inj hq; subst e9; exact th_sO g_b18
    | 2, hq => have e9 := Option.some.inj hq; subst e9; exact th_sO g_b27
    | 3, hq => have e9 := Option.some.inj hq; subst e9; exact th_sO g_b35
    | 4, hq => have e9 := Option.some.inj hq; subst e9; exact th_sO g_b43
    | 5, hq => have e9 := Option.some.inj hq; subst e9; exact th_sI (x := 0) (by decide) (by decide)
    | 6, hq => have e9 := Option.some.inj hq; subst e9; exact th_sI (x := (-1)) (by decide) (by decide)
    | 7, hq => have e9 := Option.some.inj hq; subst e9; exact th_sI (x := 0) (by decide) (by decide)
    | n + 8, hq => exact absurd (List.getElem?_eq_some_iff.mp hq).1 (by simp))
  have hR2 := th_RC_up hI1 hR1 (x := (32, 0)) ho.1 nm0 hI2 (fun e => absurd e (by decide)) (fun e => absurd e (by decide)) (by decide)
  have hIN2 := th_IN_up (b := a0) (x := (32, 0)) hIN (ini_f (r := 32) ho rfl rfl rfl (fun j x hm => by
    rcases List.mem_cons.mp hm with e | hm
    · cases e; exact ⟨by decide, rfl⟩
    rcases List.mem_cons.mp hm with e | hm
    · cases e; exact ⟨by decide, rfl⟩
    rcases List.mem_cons.mp hm with e | hm
    · cases e; exact ⟨by decide, rfl⟩
    cases hm) (fun j d hm => by
    rcases List.mem_cons.mp hm with e | hm
    · cases e; exact ⟨by decide, by rw [← of_b5]; rfl⟩
    rcases List.mem_cons.mp hm with e | hm
    · cases e; exact ⟨by decide, by rw [← of_b18]; rfl⟩
    rcases List.mem_cons.mp hm with e | hm
    · cases e; exact ⟨by decide, by rw [← of_b27]; rfl⟩
    rcases List.mem_cons.mp hm with e | hm
    · cases e; exact ⟨by decide, by rw [← of_b35]; rfl⟩
    rcases List.mem_cons.mp hm with e | hm
    · cases e; exact ⟨by decide, by rw [← of_b43]; rfl⟩
    cases hm))
  have gq : ∀ q, q < H0.size → q ≠ a0 → (th_up (th_up (th_up (th_up (th_up Γ80_5 b18 (33, a0)) b27 (34, a0)) b35 (35, a0)) b43 (36, a0)) a0 (32, 0)) q = Γ80_5 q := fun q h1 h2 => (((((th_up_n h2).trans (th_up_n (by have q9 := lb43; omega))).trans (th_up_n (by have q9 := lb35; omega))).trans (th_up_n (by have q9 := lb27; omega))).trans (th_up_n (by have q9 := lb18; omega)))
  refine th_vret hC hH hr hlocks hB.1.2.1 ⟨rfl, (th_up (th_up (th_up (th_up (th_up Γ80_5 b18 (33, a0)) b27 (34, a0)) b35 (35, a0)) b43 (36, a0)) a0 (32, 0)), ⟨⟨hI2, (by omega), fun q h1 h2 => ⟨(gq q h1 h2).trans (hB.1.2.2.2.1 q h1 h2), hB.1.2.2.1 q h1 h2⟩⟩, hR2, th_up_s, fun q w => hB.2.2.2 q (th_MR_up (show (33 : Nat) ≠ 12 by decide) (th_MR_up (show (34 : Nat) ≠ 12 by decide) (th_MR_up (show (35 : Nat) ≠ 12 by decide) (th_MR_up (show (36 : Nat) ≠ 12 by decide) (th_MR_up (show (32 : Nat) ≠ 12 by decide) w))))), fun q x o hg hq hs => ?_⟩, hIN2, hs⟩ dX8_init_90
  by_cases e_a0 : q = a0
  · rw [e_a0, th_up_s] at hg; cases hg; decide
  rw [th_up_n e_a0] at hg
  by_cases e_b43 : q = b43
  · rw [e_b43, th_up_s] at hg; cases hg; decide
  rw [th_up_n e_b43] at hg
  by_cases e_b35 : q = b35
  · rw [e_b35, th_up_s] at hg; cases hg; decide
  rw [th_up_n e_b35] at hg
  by_cases e_b27 : q = b27
  · rw [e_b27, th_up_s] at hg; cases hg; decide
  rw [th_up_n e_b27] at hg
  by_cases e_b18 : q = b18
  · rw [e_b18, th_up_s] at hg; cases hg; decide
  rw [th_up_n e_b18] at hg
  exact (show ∀ x ∈ (((((((([] ++ [3, 4, 5, 6, 7, 8, 9, 10]) ++ [39, 40, 41]) ++ [39, 40, 41]) ++ [39, 40, 41]) ++ [39, 40, 41]) ++ [39, 40, 41]) ++ [39, 40, 41]) : List Nat), x ∈ [3, 4, 5, 6, 7, 8, 9, 10, 32, 33, 34, 35, 36, 39, 40, 41] by decide) x (hN q x o hg hq hs)
end
section
set_option maxHeartbeats 4000000 in
set_option maxRecDepth 100000 in
theorem c_X3_init_i (l : Launch) (G : th_G) (Γ : th_Ga) (H0 : Heap) (hI : th_I G Γ H0) (hR : th_RC G Γ H0) (a0 : Nat) (ho : th_OB G Γ H0 a0 3 7 (fun j => defaultValue (tyX3 j))) (hsz : G.2.2 ≤ a0) (hlt : a0 < H0.size) (hm : ¬ th_MR G Γ H0 a0) (hz1 : H0.size = a0 + 1) (hno : ∀ a o : Nat, Γ a ≠ (12, o)) : Met l yX3_init (.code yX3_init cX3_init 1 (none) :: th_tb) ({ frames := 1, cells := 4, slots := 3584, locals := 24 } : Room) (th_P [.ref a0] G H0) (th_Q (fun (v : Option Value) (H1 : Heap) => v = none ∧ ∃ Γ1 : th_Ga, th_NY G Γ Γ1 a0 12 [12] H0 H1 ∧ th_IN G Γ1 a0 H0 H1 ∧ H1.size = H0.size + 4) G) 4 3584 (fun q => G.2.2 ≤ q) := by
  refine th_met RX3 (by decide) rfl (Nat.le_of_ble_eq_true rfl) ?_
  intro p e s m below meth c hC hH hr hlocks hnm ls hl
  have hx := hC.1
  have hb := hC.2.1
  have hB : th_NR G Γ Γ a0 H0 H0 [] := ⟨⟨hI, va_S.rf, fun _ _ _ => rfl, fun _ _ _ => rfl, ho.1, hsz, hlt⟩, hR, hm, fun q w => Or.inl w⟩
  have hl : lv_has ls 1 [(0, .ref a0)] := hl
  have hs : H0.size ≤ H0.size := Nat.le_refl _
  have hN := th_new_0 (a0 := a0) hI ho.1
  have hIN := th_IN_0 (a0 := a0) hI ho.1
  refine lv_aload_n hx hb dX3_init_0 rfl (lv_at hl 0 rfl) ?_
  refine W.objInit hx hb hC.2.2.2.1 (hC.2.2.2.2.1 _ kw_295) (hC.2.2.2.2.1 _ kw_28) (hC.2.2.2.2.1 _ kw_29) rfl (hl.1.trans hC.2.2.1.symm) rfl dX3_init_1 (Nat.le_of_ble_eq_true rfl) (Nat.le_of_ble_eq_true rfl) ?_
  refine W.eq (g2 := F0 m 4 ls []) rfl ?_
  refine lv_aload_n hx hb dX3_init_4 rfl (lv_at hl 0 rfl) ?_
  refine lv_bipush (v := 10) hx hb dX3_init_5 (by decide) ?_
  refine tc_put hC cf_X3 hB.1 ho (j := 0) (by decide) rfl rfl rfl kf_X3_11 dX3_init_7 (fun H7 locs hB1 ho z7 oq7 => ?_)
  have hu := hB.1.2.2.2.2.1
  have hB := th_NR_s hB hB1 hu hB.2.2.1 (by omega) oq7
  have hIN := th_IN_s hIN hu oq7
  have hs : H7.size = H0.size + 0 := by omega
  refine lv_aload_n hx hb dX3_init_10 rfl (lv_at hl 0 rfl) ?_
  refine lv_sipush (v := 1024) hx hb dX3_init_11 (by decide) ?_
  refine tc_newa (ty := .long) (t := 1) hC hB.1 rfl rfl rfl kw_246 (N := 1024) tk_1024 (by decide) (Nat.le_of_ble_eq_true rfl) (Nat.le_of_ble_eq_true rfl) dX3_init_14 (fun b14 H14 eb14 zb14 oq14 hB1 k14 => ?_)
  have u14 := k14.2.1
  have of_b14 : b14 = a0 + 1 := by omega
  have n140 : ¬ th_MR G Γ H7 b14 := fun w => absurd (th_MR_lt hB.2.1 w) (by omega)
  have hB := th_NR_s hB hB1 u14 n140 (by omega) oq14
  have hIN := th_IN_s hIN u14 oq14
  have n14 : ¬ th_MR G Γ H14 b14 := fun w => n140 (th_MR_s u14 oq14 w)
  have lb14 : H0.size ≤ b14 := by omega
  have ho := tc_OBo ho oq14 (by omega)
  have hs : H14.size = H0.size + 1 := by omega
  refine tc_put hC cf_X3 hB.1 ho (j := 1) (by decide) rfl rfl rfl kf_X3_15 dX3_init_16 (fun H16 locs hB1 ho z16 oq16 => ?_)
  have hu := hB.1.2.2.2.2.1
  have hB := th_NR_s hB hB1 hu hB.2.2.1 (by omega) oq16
  have hIN := th_IN_s hIN hu oq16
  have k14x := tm_MAo k14 oq16 (of_n0 of_b14 (by decide))
  have n14x : ¬ th_MR G Γ H16 b14 := fun w => n14 (th_MR_s hu oq16 w)
  have hs : H16.size = H0.size + 1 := by omega
  refine lv_aload_n hx hb dX3_init_19 rfl (lv_at hl 0 rfl) ?_
  refine lv_sipush (v := 1024) hx hb dX3_init_20 (by decide) ?_
  refine tc_newa (ty := .int) (t := 0) hC hB.1 rfl rfl rfl kw_104 (N := 1024) tk_1024 (by decide) (Nat.le_of_ble_eq_true rfl) (Nat.le_of_ble_eq_true rfl) dX3_init_23 (fun b23 H23 eb23 zb23 oq23 hB1 k23 => ?_)
  have u23 := k23.2.1
  have of_b23 : b23 = a0 + 2 := by omega
  have n230 : ¬ th_MR G Γ H16 b23 := fun w => absurd (th_MR_lt hB.2.1 w) (by omega)
  have hB := th_NR_s hB hB1 u23 n230 (by omega) oq23
  have hIN := th_IN_s hIN u23 oq23
  have n23 : ¬ th_MR G Γ H23 b23 := fun w => n230 (th_MR_s u23 oq23 w)
  have lb23 : H0.size ≤ b23 := by omega
  have ho := tc_OBo ho oq23 (by omega)
  have k14xx := tm_MAo k14x oq23 (of_ne of_b14 of_b23 (by decide))
  have n14xx : ¬ th_MR G Γ H23 b14 := fun w => n14x (th_MR_s u23 oq23 w)
  have hs : H23.size = H0.size + 2 := by omega
  refine tc_put hC cf_X3 hB.1 ho (j := 2) (by decide) rfl rfl rfl kf_X3_19 dX3_init_25 (fun H25 locs hB1 ho z25 oq25 => ?_)
  have hu := hB.1.2.2.2.2.1
  have hB := th_NR_s hB hB1 hu hB.2.2.1 (by omega) oq25
  have hIN := th_IN_s hIN hu oq25
  have k14xxx := tm_MAo k14xx oq25 (of_n0 of_b14 (by decide))
  have n14xxx : ¬ th_MR G Γ H25 b14 := fun w => n14xx (th_MR_s hu oq25 w)
  have k23x := tm_MAo k23 oq25 (of_n0 of_b23 (by decide))
  have n23x : ¬ th_MR G Γ H25 b23 := fun w => n23 (th_MR_s hu oq25 w)
  have hs : H25.size = H0.size + 2 := by omega
  refine lv_aload_n hx hb dX3_init_28 rfl (lv_at hl 0 rfl) ?_
  refine lv_sipush (v := 1024) hx hb dX3_init_29 (by decide) ?_
  refine tc_newa (ty := .int) (t := 0) hC hB.1 rfl rfl rfl kw_104 (N := 1024) tk_1024 (by decide) (Nat.le_of_ble_eq_true rfl) (Nat.le_of_ble_eq_true rfl) dX3_init_32 (fun b32 H32 eb32 zb32 oq32 hB1 k32 => ?_)
  have u32 := k32.2.1
  have of_b32 : b32 = a0 + 3 := by omega
  have n320 : ¬ th_MR G Γ H25 b32 := fun w => absurd (th_MR_lt hB.2.1 w) (by omega)
  have hB := th_NR_s hB hB1 u32 n320 (by omega) oq32
  have hIN := th_IN_s hIN u32 oq32
  have n32 : ¬ th_MR G Γ H32 b32 := fun w => n320 (th_MR_s u32 oq32 w)
  have lb32 : H0.size ≤ b32 := by omega
  have ho := tc_OBo ho oq32 (by omega)
  have k14xxxx := tm_MAo k14xxx oq32 (of_ne of_b14 of_b32 (by decide))
  have n14xxxx : ¬ th_MR G Γ H32 b14 := fun w => n14xxx (th_MR_s u32 oq32 w)
  have k23xx := tm_MAo k23x oq32 (of_ne of_b23 of_b32 (by decide))
  have n23xx : ¬ th_MR G Γ H32 b23 := fun w => n23x (th_MR_s u32 oq32 w)
  have hs : H32.size = H0.size + 3 := by omega
  refine tc_put hC cf_X3 hB.1 ho (j := 3) (by decide) rfl rfl rfl kf_X3_23 dX3_init_34 (fun H34 locs hB1 ho z34 oq34 => ?_)
  have hu := hB.1.2.2.2.2.1
  have hB := th_NR_s hB hB1 hu hB.2.2.1 (by omega) oq34
  have hIN := th_IN_s hIN hu oq34
  have k14xxxxx := tm_MAo k14xxxx oq34 (of_n0 of_b14 (by decide))
  have n14xxxxx : ¬ th_MR G Γ H34 b14 := fun w => n14xxxx (th_MR_s hu oq34 w)
  have k23xxx := tm_MAo k23xx oq34 (of_n0 of_b23 (by decide))
  have n23xxx : ¬ th_MR G Γ H34 b23 := fun w => n23xx (th_MR_s hu oq34 w)
  have k32x := tm_MAo k32 oq34 (of_n0 of_b32 (by decide))
  have n32x : ¬ th_MR G Γ H34 b32 := fun w => n32 (th_MR_s hu oq34 w)
  have hs : H34.size = H0.size + 3 := by omega
  refine lv_aload_n hx hb dX3_init_37 rfl (lv_at hl 0 rfl) ?_
  refine lv_sipush (v := 512) hx hb dX3_init_38 (by decide) ?_
  refine tc_newa (ty := .int) (t := 0) hC hB.1 rfl rfl rfl kw_104 (N := 512) tk_512 (by decide) (Nat.le_of_ble_eq_true rfl) (Nat.le_of_ble_eq_true rfl) dX3_init_41 (fun b41 H41 eb41 zb41 oq41 hB1 k41 => ?_)
  have u41 := k41.2.1
  have of_b41 : b41 = a0 + 4 := by omega
  have n410 : ¬ th_MR G Γ H34 b41 := fun w => absurd (th_MR_lt hB.2.1 w) (by omega)
  have hB := th_NR_s hB hB1 u41 n410 (by omega) oq41
  have hIN := th_IN_s hIN u41 oq41
  have n41 : ¬ th_MR G Γ H41 b41 := fun w => n410 (th_MR_s u41 oq41 w)
  have lb41 : H0.size ≤ b41 := by omega
  have ho := tc_OBo ho oq41 (by omega)
  have k14xxxxxx := tm_MAo k14xxxxx oq41 (of_ne of_b14 of_b41 (by decide))
  have n14xxxxxx : ¬ th_MR G Γ H41 b14 := fun w => n14xxxxx (th_MR_s u41 oq41 w)
  have k23xxxx := tm_MAo k23xxx oq41 (of_ne of_b23 of_b41 (by decide))
  have n23xxxx : ¬ th_MR G Γ H41 b23 := fun w => n23xxx (th_MR_s u41 oq41 w)
  have k32xx := tm_MAo k32x oq41 (of_ne of_b32 of_b41 (by decide))
  have n32xx : ¬ th_MR G Γ H41 b32 := fun w => n32x (th_MR_s u41 oq41 w)
  have hs : H41.size = H0.size + 4 := by omega
  refine tc_put hC cf_X3 hB.1 ho (j := 4) (by decide) rfl rfl rfl kf_X3_26 dX3_init_43 (fun H43 locs hB1 ho z43 oq43 => ?_)
  have hu := hB.1.2.2.2.2.1
  have hB := th_NR_s hB hB1 hu hB.2.2.1 (by omega) oq43
  have hIN := th_IN_s hIN hu oq43
  have k14xxxxxxx := tm_MAo k14xxxxxx oq43 (of_n0 of_b14 (by decide))
  have n14xxxxxxx : ¬ th_MR G Γ H43 b14 := fun w => n14xxxxxx (th_MR_s hu oq43 w)
  have k23xxxxx := tm_MAo k23xxxx oq43 (of_n0 of_b23 (by decide))
  have n23xxxxx : ¬ th_MR G Γ H43 b23 := fun w => n23xxxx (th_MR_s hu oq43 w)
  have k32xxx := tm_MAo k32xx oq43 (of_n0 of_b32 (by decide))
  have n32xxx : ¬ th_MR G Γ H43 b32 := fun w => n32xx (th_MR_s hu oq43 w)
  have k41x := tm_MAo k41 oq43 (of_n0 of_b41 (by decide))
  have n41x : ¬ th_MR G Γ H43 b41 := fun w => n41 (th_MR_s hu oq43 w)
  have hs : H43.size = H0.size + 4 := by omega
  refine lv_aload_n hx hb dX3_init_46 rfl (lv_at hl 0 rfl) ?_
  refine lv_iconst (v := 0) hx hb dX3_init_47 (by decide) ?_
  refine tc_put hC cf_X3 hB.1 ho (j := 5) (by decide) rfl rfl rfl kf_X3_29 dX3_init_48 (fun H48 locs hB1 ho z48 oq48 => ?_)
  have hu := hB.1.2.2.2.2.1
  have hB := th_NR_s hB hB1 hu hB.2.2.1 (by omega) oq48
  have hIN := th_IN_s hIN hu oq48
  have k14xxxxxxxx := tm_MAo k14xxxxxxx oq48 (of_n0 of_b14 (by decide))
  have n14xxxxxxxx : ¬ th_MR G Γ H48 b14 := fun w => n14xxxxxxx (th_MR_s hu oq48 w)
  have k23xxxxxx := tm_MAo k23xxxxx oq48 (of_n0 of_b23 (by decide))
  have n23xxxxxx : ¬ th_MR G Γ H48 b23 := fun w => n23xxxxx (th_MR_s hu oq48 w)
  have k32xxxx := tm_MAo k32xxx oq48 (of_n0 of_b32 (by decide))
  have n32xxxx : ¬ th_MR G Γ H48 b32 := fun w => n32xxx (th_MR_s hu oq48 w)
  have k41xx := tm_MAo k41x oq48 (of_n0 of_b41 (by decide))
  have n41xx : ¬ th_MR G Γ H48 b41 := fun w => n41x (th_MR_s hu oq48 w)
  have hs : H48.size = H0.size + 4 := by omega
  refine lv_aload_n hx hb dX3_init_51 rfl (lv_at hl 0 rfl) ?_
  refine lv_iconst (v := 0) hx hb dX3_init_52 (by decide) ?_
  refine tc_put hC cf_X3 hB.1 ho (j := 6) (by decide) rfl narrow_b0 rfl kf_X3_32 dX3_init_53 (fun H53 locs hB1 ho z53 oq53 => ?_)
  have hu := hB.1.2.2.2.2.1
  have hB := th_NR_s hB hB1 hu hB.2.2.1 (by omega) oq53
  have hIN := th_IN_s hIN hu oq53
  have k14xxxxxxxxx := tm_MAo k14xxxxxxxx oq53 (of_n0 of_b14 (by decide))
  have n14xxxxxxxxx : ¬ th_MR G Γ H53 b14 := fun w => n14xxxxxxxx (th_MR_s hu oq53 w)
  have k23xxxxxxx := tm_MAo k23xxxxxx oq53 (of_n0 of_b23 (by decide))
  have n23xxxxxxx : ¬ th_MR G Γ H53 b23 := fun w => n23xxxxxx (th_MR_s hu oq53 w)
  have k32xxxxx := tm_MAo k32xxxx oq53 (of_n0 of_b32 (by decide))
  have n32xxxxx : ¬ th_MR G Γ H53 b32 := fun w => n32xxxx (th_MR_s hu oq53 w)
  have k41xxx := tm_MAo k41xx oq53 (of_n0 of_b41 (by decide))
  have n41xxx : ¬ th_MR G Γ H53 b41 := fun w => n41xx (th_MR_s hu oq53 w)
  have hs : H53.size = H0.size + 4 := by omega
  refine lv_aload_n hx hb dX3_init_56 rfl (lv_at hl 0 rfl) ?_
  refine tc_get hC cf_X3 ho (j := 1) (by decide) rfl kf_X3_15 dX3_init_57 ?_
  refine lv_ldc2 (v := (-1)) hx hb hC.2.2.2.1 (hC.2.2.2.2.1 _ kw_296) dX3_init_60 ?_
  refine th_call (th_runS (As := [.ref b14, .long (-1)]) (rest := []) hC mf_J7_fill_d0a16 km_X3_38 st_J7_fill_d0a16 (c_J7_fill_d0a16_m1024 l G Γ H53 hB.1.1 b14 (fun _ => 0) k14xxxxxxxxx (-1)) rfl rfl ⟨Nat.le_of_ble_eq_true rfl, Nat.le_of_ble_eq_true rfl⟩ rfl hl.1 rfl (Nat.le_of_ble_eq_true rfl) dX3_init_63 ⟨Nat.le_refl _, Nat.le_refl _⟩) hB.1.2.1 (fun v63 H63 locs hp hz hS => ?_)
  obtain ⟨rfl, hIf, hf, ⟨gf, kq⟩, hfr⟩ := hp
  have oq : ∀ q, q ≠ b14 → H63[q]? = H53[q]? := fun q hq => hfr q (by simpa using hq)
  have hB1 : th_N G Γ Γ a0 H0 H63 locs := ⟨hIf, hS, fun q h1 h2 => (oq q (by have q9 := lb14; omega)).trans (hB.1.2.2.1 q h1 h2), hB.1.2.2.2⟩
  have hq := k14xxxxxxxxx.2.1
  have hB := th_NR_s hB hB1 hq n14xxxxxxxxx hz oq
  have hIN := th_IN_s hIN hq oq
  have ho := tc_OBo ho oq (by have q9 := lb14; omega)
  have k23xxxxxxxx := tm_MAo k23xxxxxxx oq (fun e => (of_ne of_b14 of_b23 (by decide)) e.symm)
  have k32xxxxxx := tm_MAo k32xxxxx oq (fun e => (of_ne of_b14 of_b32 (by decide)) e.symm)
  have k41xxxx := tm_MAo k41xxx oq (fun e => (of_ne of_b14 of_b41 (by decide)) e.symm)
  have kf := kq
  have zf := sz_oq (of_lt hz1 hs of_b14 (by decide)) oq hz
  have hs : H63.size = H0.size + 4 := by omega
  refine W.eq (g2 := F0 m 66 ls []) rfl ?_
  have hI2 := th_nmO (r := 12) hB.1.1 ho hsz ro_12 rfl (fun j q hq => by
    match j, hq with
    | 0, hq => have e9 := Option.some.inj hq; subst e9; exact th_sI (x := 10) (by decide) (by decide)
    | 1, hq => have e9 := Option.some.inj hq; subst e9; exact th_s5
    | 2, hq => have e9 := Option.some.inj hq; subst e9; exact th_s5
    | 3, hq => have e9 := Option.some.inj hq; subst e9; exact th_s5
    | 4, hq => have e9 := Option.some.inj hq; subst e9; exact th_s5
    | 5, hq => have e9 := Option.some.inj hq; subst e9; exact th_sI (x := 0) (by decide) (by decide)
    | 6, hq => have e9 := Option.some.inj hq; subst e9; exact th_sI (x := 0) (by decide) (by decide)
    | n + 7, hq => exact absurd (List.getElem?_eq_some_iff.mp hq).1 (by simp))
  have hR2 := th_RC_mm hB.2.1 hno ho rfl rfl rfl rfl rfl rfl kf k23xxxxxxxx k32xxxxxx k41xxxx (fun e => (of_ne of_b14 of_b23 (by decide)) e) (fun e => (of_ne of_b14 of_b32 (by decide)) e) (fun e => (of_ne of_b14 of_b41 (by decide)) e) (fun e => (of_ne of_b23 of_b32 (by decide)) e) (fun e => (of_ne of_b23 of_b41 (by decide)) e) (fun e => (of_ne of_b32 of_b41 (by decide)) e) (by have q9 := lb14; omega) (by have q9 := lb23; omega) (by have q9 := lb32; omega) (by have q9 := lb41; omega)
  have hIN2 := th_IN_up (b := a0) (x := (12, 0)) hIN (ini_o rfl rfl rfl rfl)
  refine th_vret hC hH hr hlocks hB.1.2.1 ⟨rfl, th_up Γ a0 (12, 0), ⟨⟨hI2, (by omega), fun q h1 h2 => ⟨th_up_n h2, hB.1.2.2.1 q h1 h2⟩⟩, hR2, th_up_s, fun q w => Or.inr (th_MR_mm hno ho rfl rfl rfl rfl lb14 lb23 lb32 lb41 w), fun q x o hg hq hs => ?_⟩, hIN2, hs⟩ dX3_init_66
  by_cases e_a0 : q = a0
  · rw [e_a0, th_up_s] at hg; cases hg; decide
  rw [th_up_n e_a0] at hg
  exact (show ∀ x ∈ ([] : List Nat), x ∈ [12] by decide) x (hN q x o hg hq hs)

set_option maxHeartbeats 4000000 in
set_option maxRecDepth 100000 in
theorem c_X7_init_i (l : Launch) (G : th_G) (Γ : th_Ga) (H0 : Heap) (hI : th_I G Γ H0) (hR : th_RC G Γ H0) (a0 : Nat) (ho : th_OB G Γ H0 a0 7 14 (fun j => defaultValue (tyX7 j))) (hsz : G.2.2 ≤ a0) (hlt : a0 < H0.size) (hm : ¬ th_MR G Γ H0 a0) (hz1 : H0.size = a0 + 1) (hno : ∀ a o : Nat, Γ a ≠ (12, o)) : Met l yX7_init (.code yX7_init cX7_init 1 (none) :: th_tb) ({ frames := 2, cells := 9, slots := 7488, locals := 44 } : Room) (th_P [.ref a0] G H0) (th_Q (fun (v : Option Value) (H1 : Heap) => v = none ∧ ∃ Γ1 : th_Ga, th_NY G Γ Γ1 a0 27 [12, 27, 28, 29, 30, 31] H0 H1 ∧ th_IN G Γ1 a0 H0 H1 ∧ H1.size = H0.size + 9) G) 9 7488 (fun q => G.2.2 ≤ q) := by
  refine th_met RX7 (by decide) rfl (Nat.le_of_ble_eq_true rfl) ?_
  intro p e s m below meth c hC hH hr hlocks hnm ls hl
  have hx := hC.1
  have hb := hC.2.1
  have hB : th_NR G Γ Γ a0 H0 H0 [] := ⟨⟨hI, va_S.rf, fun _ _ _ => rfl, fun _ _ _ => rfl, ho.1, hsz, hlt⟩, hR, hm, fun q w => Or.inl w⟩
  have hl : lv_has ls 1 [(0, .ref a0)] := hl
  have hs : H0.size ≤ H0.size := Nat.le_refl _
  have hN := th_new_0 (a0 := a0) hI ho.1
  have hIN := th_IN_0 (a0 := a0) hI ho.1
  refine lv_aload_n hx hb dX7_init_0 rfl (lv_at hl 0 rfl) ?_
  refine W.objInit hx hb hC.2.2.2.1 (hC.2.2.2.2.1 _ kw_289) (hC.2.2.2.2.1 _ kw_28) (hC.2.2.2.2.1 _ kw_29) rfl (hl.1.trans hC.2.2.1.symm) rfl dX7_init_1 (Nat.le_of_ble_eq_true rfl) (Nat.le_of_ble_eq_true rfl) ?_
  refine W.eq (g2 := F0 m 4 ls []) rfl ?_
  refine lv_aload_n hx hb dX7_init_4 rfl (lv_at hl 0 rfl) ?_
  refine tc_new hC cf_X3 hB.1 kw_290 kw_291 kw_11 (Nat.le_of_ble_eq_true rfl) (Nat.le_of_ble_eq_true rfl) dX7_init_5 (fun b5 H5 eb5 zb5 oq5 hB1 kn => ?_)
  have of_b5 : b5 = a0 + 1 := by omega
  have n50 : ¬ th_MR G Γ H0 b5 := fun w => absurd (th_MR_lt hB.2.1 w) (by omega)
  have u5 := kn.1
  have hB := th_NR_s hB hB1 u5 n50 (by omega) oq5
  have hIN := th_IN_s hIN u5 oq5
  have nb : ¬ th_MR G Γ H5 b5 := fun w => n50 (th_MR_s u5 oq5 w)
  have ho := tc_OBo ho oq5 (by omega)
  have lbn : H0.size ≤ b5 := by omega
  have ltn : b5 < H5.size := by omega
  have szn : G.2.2 ≤ b5 := by have q9 := hB.1.2.2.2.2.2.1; have q8 := hB.1.2.2.2.2.2.2; omega
  have hs : H5.size = H0.size + 1 := by omega
  refine lv_dup hx hb dX7_init_8 rfl ?_
  refine th_call (th_runI (As := []) (rest := [.ref b5, .ref a0]) hC mf_X3_init km_X7_11 im_X3_init rfl (c_X3_init_i l G Γ H5 hB.1.1 hB.2.1 b5 kn szn ltn nb (by omega) hno) rfl rfl ⟨Nat.le_of_ble_eq_true rfl, Nat.le_of_ble_eq_true rfl⟩ rfl hl.1 rfl (Nat.le_of_ble_eq_true rfl) dX7_init_9 ⟨Nat.le_of_ble_eq_true rfl, Nat.le_of_ble_eq_true rfl⟩) hB.1.2.1 (fun v9 H9 locs hp hz hS => ?_)
  obtain ⟨rfl, Γ9, hy, hi, hzn⟩ := hp
  have hB := th_NR_c hB hy lbn hS
  have hIN := th_IN_c hIN hy hi
  have ho := tc_OBc ho hy (by omega) (by omega)
  have hr_b5 := hy.2.2.1
  have hs : H9.size = H0.size + 5 := by omega
  have hN := th_new_c hN hy
  refine W.eq (g2 := F0 m 12 ls [.ref b5, .ref a0]) rfl ?_
  refine tc_putF hC cf_X7 hB.1 ho (j := 0) (by decide) rfl hnm rfl rfl kf_X7_12 dX7_init_12 (fun H12 locs hB1 ho z12 oq12 => ?_)
  have hu := hB.1.2.2.2.2.1
  have hB := th_NR_s hB hB1 hu hB.2.2.1 (by omega) oq12
  have hIN := th_IN_s hIN hu oq12
  have hs : H12.size = H0.size + 5 := by omega
  refine lv_aload_n hx hb dX7_init_15 rfl (lv_at hl 0 rfl) ?_
  refine lv_sipush (v := 1296) hx hb dX7_init_16 (by decide) ?_
  refine tc_newa (ty := .int) (t := 0) hC hB.1 rfl rfl rfl kw_104 (N := 1296) tk_1296 (by decide) (Nat.le_of_ble_eq_true rfl) (Nat.le_of_ble_eq_true rfl) dX7_init_19 (fun b19 H19 eb19 zb19 oq19 hB1 k19 => ?_)
  have u19 := k19.2.1
  have of_b19 : b19 = a0 + 6 := by omega
  have n190 : ¬ th_MR G Γ9 H12 b19 := fun w => absurd (th_MR_lt hB.2.1 w) (by omega)
  have hB := th_NR_s hB hB1 u19 n190 (by omega) oq19
  have hIN := th_IN_s hIN u19 oq19
  have n19 : ¬ th_MR G Γ9 H19 b19 := fun w => n190 (th_MR_s u19 oq19 w)
  have lb19 : H0.size ≤ b19 := by omega
  have ho := tc_OBo ho oq19 (by omega)
  have hs : H19.size = H0.size + 6 := by omega
  refine tc_putF hC cf_X7 hB.1 ho (j := 1) (by decide) rfl hnm rfl rfl kf_X7_18 dX7_init_21 (fun H21 locs hB1 ho z21 oq21 => ?_)
  have hu := hB.1.2.2.2.2.1
  have hB := th_NR_s hB hB1 hu hB.2.2.1 (by omega) oq21
  have hIN := th_IN_s hIN hu oq21
  have k19x := tm_MAo k19 oq21 (of_n0 of_b19 (by decide))
  have n19x : ¬ th_MR G Γ9 H21 b19 := fun w => n19 (th_MR_s hu oq21 w)
  have hs : H21.size = H0.size + 6 := by omega
  refine lv_aload_n hx hb dX7_init_24 rfl (lv_at hl 0 rfl) ?_
  refine lv_sipush (v := 1296) hx hb dX7_init_25 (by decide) ?_
  refine tc_newa (ty := .int) (t := 0) hC hB.1 rfl rfl rfl kw_104 (N := 1296) tk_1296 (by decide) (Nat.le_of_ble_eq_true rfl) (Nat.le_of_ble_eq_true rfl) dX7_init_28 (fun b28 H28 eb28 zb28 oq28 hB1 k28 => ?_)
  have u28 := k28.2.1
  have of_b28 : b28 = a0 + 7 := by omega
  have n280 : ¬ th_MR G Γ9 H21 b28 := fun w => absurd (th_MR_lt hB.2.1 w) (by omega)
  have hB := th_NR_s hB hB1 u28 n280 (by omega) oq28
  have hIN := th_IN_s hIN u28 oq28
  have n28 : ¬ th_MR G Γ9 H28 b28 := fun w => n280 (th_MR_s u28 oq28 w)
  have lb28 : H0.size ≤ b28 := by omega
  have ho := tc_OBo ho oq28 (by omega)
  have k19xx := tm_MAo k19x oq28 (of_ne of_b19 of_b28 (by decide))
  have n19xx : ¬ th_MR G Γ9 H28 b19 := fun w => n19x (th_MR_s u28 oq28 w)
  have hs : H28.size = H0.size + 7 := by omega
  refine tc_putF hC cf_X7 hB.1 ho (j := 2) (by decide) rfl hnm rfl rfl kf_X7_22 dX7_init_30 (fun H30 locs hB1 ho z30 oq30 => ?_)
  have hu := hB.1.2.2.2.2.1
  have hB := th_NR_s hB hB1 hu hB.2.2.1 (by omega) oq30
  have hIN := th_IN_s hIN hu oq30
  have k19xxx := tm_MAo k19xx oq30 (of_n0 of_b19 (by decide))
  have n19xxx : ¬ th_MR G Γ9 H30 b19 := fun w => n19xx (th_MR_s hu oq30 w)
  have k28x := tm_MAo k28 oq30 (of_n0 of_b28 (by decide))
  have n28x : ¬ th_MR G Γ9 H30 b28 := fun w => n28 (th_MR_s hu oq30 w)
  have hs : H30.size = H0.size + 7 := by omega
  refine lv_aload_n hx hb dX7_init_33 rfl (lv_at hl 0 rfl) ?_
  refine lv_sipush (v := 1296) hx hb dX7_init_34 (by decide) ?_
  refine tc_newa (ty := .int) (t := 0) hC hB.1 rfl rfl rfl kw_104 (N := 1296) tk_1296 (by decide) (Nat.le_of_ble_eq_true rfl) (Nat.le_of_ble_eq_true rfl) dX7_init_37 (fun b37 H37 eb37 zb37 oq37 hB1 k37 => ?_)
  have u37 := k37.2.1
  have of_b37 : b37 = a0 + 8 := by omega
  have n370 : ¬ th_MR G Γ9 H30 b37 := fun w => absurd (th_MR_lt hB.2.1 w) (by omega)
  have hB := th_NR_s hB hB1 u37 n370 (by omega) oq37
  have hIN := th_IN_s hIN u37 oq37
  have n37 : ¬ th_MR G Γ9 H37 b37 := fun w => n370 (th_MR_s u37 oq37 w)
  have lb37 : H0.size ≤ b37 := by omega
  have ho := tc_OBo ho oq37 (by omega)
  have k19xxxx := tm_MAo k19xxx oq37 (of_ne of_b19 of_b37 (by decide))
  have n19xxxx : ¬ th_MR G Γ9 H37 b19 := fun w => n19xxx (th_MR_s u37 oq37 w)
  have k28xx := tm_MAo k28x oq37 (of_ne of_b28 of_b37 (by decide))
  have n28xx : ¬ th_MR G Γ9 H37 b28 := fun w => n28x (th_MR_s u37 oq37 w)
  have hs : H37.size = H0.size + 8 := by omega
  refine tc_putF hC cf_X7 hB.1 ho (j := 3) (by decide) rfl hnm rfl rfl kf_X7_25 dX7_init_39 (fun H39 locs hB1 ho z39 oq39 => ?_)
  have hu := hB.1.2.2.2.2.1
  have hB := th_NR_s hB hB1 hu hB.2.2.1 (by omega) oq39
  have hIN := th_IN_s hIN hu oq39
  have k19xxxxx := tm_MAo k19xxxx oq39 (of_n0 of_b19 (by decide))
  have n19xxxxx : ¬ th_MR G Γ9 H39 b19 := fun w => n19xxxx (th_MR_s hu oq39 w)
  have k28xxx := tm_MAo k28xx oq39 (of_n0 of_b28 (by decide))
  have n28xxx : ¬ th_MR G Γ9 H39 b28 := fun w => n28xx (th_MR_s hu oq39 w)
  have k37x := tm_MAo k37 oq39 (of_n0 of_b37 (by decide))
  have n37x : ¬ th_MR G Γ9 H39 b37 := fun w => n37 (th_MR_s hu oq39 w)
  have hs : H39.size = H0.size + 8 := by omega
  refine lv_aload_n hx hb dX7_init_42 rfl (lv_at hl 0 rfl) ?_
  refine lv_bipush (v := 9) hx hb dX7_init_43 (by decide) ?_
  refine tc_newa (ty := .int) (t := 0) hC hB.1 rfl rfl rfl kw_104 (N := 9) tk_9 (by decide) (Nat.le_of_ble_eq_true rfl) (Nat.le_of_ble_eq_true rfl) dX7_init_45 (fun b45 H45 eb45 zb45 oq45 hB1 k45 => ?_)
  have u45 := k45.2.1
  have of_b45 : b45 = a0 + 9 := by omega
  have n450 : ¬ th_MR G Γ9 H39 b45 := fun w => absurd (th_MR_lt hB.2.1 w) (by omega)
  have hB := th_NR_s hB hB1 u45 n450 (by omega) oq45
  have hIN := th_IN_s hIN u45 oq45
  have n45 : ¬ th_MR G Γ9 H45 b45 := fun w => n450 (th_MR_s u45 oq45 w)
  have lb45 : H0.size ≤ b45 := by omega
  have ho := tc_OBo ho oq45 (by omega)
  have k19xxxxxx := tm_MAo k19xxxxx oq45 (of_ne of_b19 of_b45 (by decide))
  have n19xxxxxx : ¬ th_MR G Γ9 H45 b19 := fun w => n19xxxxx (th_MR_s u45 oq45 w)
  have k28xxxx := tm_MAo k28xxx oq45 (of_ne of_b28 of_b45 (by decide))
  have n28xxxx : ¬ th_MR G Γ9 H45 b28 := fun w => n28xxx (th_MR_s u45 oq45 w)
  have k37xx := tm_MAo k37x oq45 (of_ne of_b37 of_b45 (by decide))
  have n37xx : ¬ th_MR G Γ9 H45 b37 := fun w => n37x (th_MR_s u45 oq45 w)
  have hs : H45.size = H0.size + 9 := by omega
  refine tc_putF hC cf_X7 hB.1 ho (j := 4) (by decide) rfl hnm rfl rfl kf_X7_28 dX7_init_47 (fun H47 locs hB1 ho z47 oq47 => ?_)
  have hu := hB.1.2.2.2.2.1
  have hB := th_NR_s hB hB1 hu hB.2.2.1 (by omega) oq47
  have hIN := th_IN_s hIN hu oq47
  have k19xxxxxxx := tm_MAo k19xxxxxx oq47 (of_n0 of_b19 (by decide))
  have n19xxxxxxx : ¬ th_MR G Γ9 H47 b19 := fun w => n19xxxxxx (th_MR_s hu oq47 w)
  have k28xxxxx := tm_MAo k28xxxx oq47 (of_n0 of_b28 (by decide))
  have n28xxxxx : ¬ th_MR G Γ9 H47 b28 := fun w => n28xxxx (th_MR_s hu oq47 w)
  have k37xxx := tm_MAo k37xx oq47 (of_n0 of_b37 (by decide))
  have n37xxx : ¬ th_MR G Γ9 H47 b37 := fun w => n37xx (th_MR_s hu oq47 w)
  have k45x := tm_MAo k45 oq47 (of_n0 of_b45 (by decide))
  have n45x : ¬ th_MR G Γ9 H47 b45 := fun w => n45 (th_MR_s hu oq47 w)
  have hs : H47.size = H0.size + 9 := by omega
  refine lv_aload_n hx hb dX7_init_50 rfl (lv_at hl 0 rfl) ?_
  refine lv_iconst (v := 0) hx hb dX7_init_51 (by decide) ?_
  refine tc_put hC cf_X7 hB.1 ho (j := 5) (by decide) rfl rfl rfl kf_X7_31 dX7_init_52 (fun H52 locs hB1 ho z52 oq52 => ?_)
  have hu := hB.1.2.2.2.2.1
  have hB := th_NR_s hB hB1 hu hB.2.2.1 (by omega) oq52
  have hIN := th_IN_s hIN hu oq52
  have k19xxxxxxxx := tm_MAo k19xxxxxxx oq52 (of_n0 of_b19 (by decide))
  have n19xxxxxxxx : ¬ th_MR G Γ9 H52 b19 := fun w => n19xxxxxxx (th_MR_s hu oq52 w)
  have k28xxxxxx := tm_MAo k28xxxxx oq52 (of_n0 of_b28 (by decide))
  have n28xxxxxx : ¬ th_MR G Γ9 H52 b28 := fun w => n28xxxxx (th_MR_s hu oq52 w)
  have k37xxxx := tm_MAo k37xxx oq52 (of_n0 of_b37 (by decide))
  have n37xxxx : ¬ th_MR G Γ9 H52 b37 := fun w => n37xxx (th_MR_s hu oq52 w)
  have k45xx := tm_MAo k45x oq52 (of_n0 of_b45 (by decide))
  have n45xx : ¬ th_MR G Γ9 H52 b45 := fun w => n45x (th_MR_s hu oq52 w)
  have hs : H52.size = H0.size + 9 := by omega
  refine lv_aload_n hx hb dX7_init_55 rfl (lv_at hl 0 rfl) ?_
  refine lv_iconst (v := 0) hx hb dX7_init_56 (by decide) ?_
  refine tc_put hC cf_X7 hB.1 ho (j := 6) (by decide) rfl rfl rfl kf_X7_35 dX7_init_57 (fun H57 locs hB1 ho z57 oq57 => ?_)
  have hu := hB.1.2.2.2.2.1
  have hB := th_NR_s hB hB1 hu hB.2.2.1 (by omega) oq57
  have hIN := th_IN_s hIN hu oq57
  have k19xxxxxxxxx := tm_MAo k19xxxxxxxx oq57 (of_n0 of_b19 (by decide))
  have n19xxxxxxxxx : ¬ th_MR G Γ9 H57 b19 := fun w => n19xxxxxxxx (th_MR_s hu oq57 w)
  have k28xxxxxxx := tm_MAo k28xxxxxx oq57 (of_n0 of_b28 (by decide))
  have n28xxxxxxx : ¬ th_MR G Γ9 H57 b28 := fun w => n28xxxxxx (th_MR_s hu oq57 w)
  have k37xxxxx := tm_MAo k37xxxx oq57 (of_n0 of_b37 (by decide))
  have n37xxxxx : ¬ th_MR G Γ9 H57 b37 := fun w => n37xxxx (th_MR_s hu oq57 w)
  have k45xxx := tm_MAo k45xx oq57 (of_n0 of_b45 (by decide))
  have n45xxx : ¬ th_MR G Γ9 H57 b45 := fun w => n45xx (th_MR_s hu oq57 w)
  have hs : H57.size = H0.size + 9 := by omega
  have hI1 := hB.1.1
  have hR1 := hB.2.1
  have hI2 := th_nmA (r := 28) (o := a0) hI1 k19xxxxxxxxx ro_28 (Nat.le_refl _) (Nat.le_refl _) (fun i _ => th_sI (x := 0) (by decide) (by decide))
  have hR1 := th_RC_up hI1 hR1 (x := (28, a0)) k19xxxxxxxxx.2.1 n19xxxxxxxxx hI2 (fun e => absurd (show (28 : Nat) = 3 from e) (by decide)) (fun e => absurd (show (28 : Nat) = 18 ∨ (28 : Nat) = 19 from e) (by decide)) (show (28 : Nat) ≠ 12 by decide)
  have hI1 := hI2
  have hIN := th_IN_up (b := b19) (x := (28, a0)) hIN (ini_r rfl rfl rfl rfl (fun i hi => th_sl_at k19xxxxxxxxx.2.2 (arrV_read _ _ hi)))
  have ho := th_OB_up (b := b19) (x := (28, a0)) ho (by have q9 := lb19; omega)
  have k28xxxxxxxu := th_MA_up (b := b19) (x := (28, a0)) k28xxxxxxx (fun e => (of_ne of_b19 of_b28 (by decide)) e.symm)
  have n28xxxxxxxu : ¬ th_MR G (th_up Γ9 b19 (28, a0)) H57 b28 := fun w => n28xxxxxxx (th_MR_up (show (28 : Nat) ≠ 12 by decide) w)
  have k37xxxxxu := th_MA_up (b := b19) (x := (28, a0)) k37xxxxx (fun e => (of_ne of_b19 of_b37 (by decide)) e.symm)
  have n37xxxxxu : ¬ th_MR G (th_up Γ9 b19 (28, a0)) H57 b37 := fun w => n37xxxxx (th_MR_up (show (28 : Nat) ≠ 12 by decide) w)
  have k45xxxu := th_MA_up (b := b19) (x := (28, a0)) k45xxx (fun e => (of_ne of_b19 of_b45 (by decide)) e.symm)
  have n45xxxu : ¬ th_MR G (th_up Γ9 b19 (28, a0)) H57 b45 := fun w => n45xxx (th_MR_up (show (28 : Nat) ≠ 12 by decide) w)
  have hI2 := th_nmA (r := 29) (o := a0) hI1 k28xxxxxxxu ro_29 (Nat.le_refl _) (Nat.le_refl _) (fun i _ => th_sI (x := 0) (by decide) (by decide))
  have hR1 := th_RC_up hI1 hR1 (x := (29, a0)) k28xxxxxxxu.2.1 n28xxxxxxxu hI2 (fun e => absurd (show (29 : Nat) = 3 from e) (by decide)) (fun e => absurd (show (29 : Nat) = 18 ∨ (29 : Nat) = 19 from e) (by decide)) (show (29 : Nat) ≠ 12 by decide)
  have hI1 := hI2
  have hIN := th_IN_up (b := b28) (x := (29, a0)) hIN (ini_r rfl rfl rfl rfl (fun i hi => th_sl_at k28xxxxxxx.2.2 (arrV_read _ _ hi)))
  have ho := th_OB_up (b := b28) (x := (29, a0)) ho (by have q9 := lb28; omega)
  have k37xxxxxuu := th_MA_up (b := b28) (x := (29, a0)) k37xxxxxu (fun e => (of_ne of_b28 of_b37 (by decide)) e.symm)
  have n37xxxxxuu : ¬ th_MR G (th_up (th_up Γ9 b19 (28, a0)) b28 (29, a0)) H57 b37 := fun w => n37xxxxxu (th_MR_up (show (29 : Nat) ≠ 12 by decide) w)
  have k45xxxuu := th_MA_up (b := b28) (x := (29, a0)) k45xxxu (fun e => (of_ne of_b28 of_b45 (by decide)) e.symm)
  have n45xxxuu : ¬ th_MR G (th_up (th_up Γ9 b19 (28, a0)) b28 (29, a0)) H57 b45 := fun w => n45xxxu (th_MR_up (show (29 : Nat) ≠ 12 by decide) w)
  have hI2 := th_nmA (r := 30) (o := a0) hI1 k37xxxxxuu ro_30 (Nat.le_refl _) (Nat.le_refl _) (fun i _ => th_sI (x := 0) (by decide) (by decide))
  have hR1 := th_RC_up hI1 hR1 (x := (30, a0)) k37xxxxxuu.2.1 n37xxxxxuu hI2 (fun e => absurd (show (30 : Nat) = 3 from e) (by decide)) (fun e => absurd (show (30 : Nat) = 18 ∨ (30 : Nat) = 19 from e) (by decide)) (show (30 : Nat) ≠ 12 by decide)
  have hI1 := hI2
  have hIN := th_IN_up (b := b37) (x := (30, a0)) hIN (ini_r rfl rfl rfl rfl (fun i hi => th_sl_at k37xxxxx.2.2 (arrV_read _ _ hi)))
  have ho := th_OB_up (b := b37) (x := (30, a0)) ho (by have q9 := lb37; omega)
  have k45xxxuuu := th_MA_up (b := b37) (x := (30, a0)) k45xxxuu (fun e => (of_ne of_b37 of_b45 (by decide)) e.symm)
  have n45xxxuuu : ¬ th_MR G (th_up (th_up (th_up Γ9 b19 (28, a0)) b28 (29, a0)) b37 (30, a0)) H57 b45 := fun w => n45xxxuu (th_MR_up (show (30 : Nat) ≠ 12 by decide) w)
  have hI2 := th_nmA (r := 31) (o := a0) hI1 k45xxxuuu ro_31 (Nat.le_refl _) (Nat.le_refl _) (fun i _ => th_sI (x := 0) (by decide) (by decide))
  have hR1 := th_RC_up hI1 hR1 (x := (31, a0)) k45xxxuuu.2.1 n45xxxuuu hI2 (fun e => absurd (show (31 : Nat) = 3 from e) (by decide)) (fun e => absurd (show (31 : Nat) = 18 ∨ (31 : Nat) = 19 from e) (by decide)) (show (31 : Nat) ≠ 12 by decide)
  have hI1 := hI2
  have hIN := th_IN_up (b := b45) (x := (31, a0)) hIN (ini_r rfl rfl rfl rfl (fun i hi => th_sl_at k45xxx.2.2 (arrV_read _ _ hi)))
  have ho := th_OB_up (b := b45) (x := (31, a0)) ho (by have q9 := lb45; omega)
  have g_b19 : (th_up (th_up (th_up (th_up Γ9 b19 (28, a0)) b28 (29, a0)) b37 (30, a0)) b45 (31, a0)) b19 = (28, a0) := (th_up_n ((of_ne of_b19 of_b45 (by decide)))).trans ((th_up_n ((of_ne of_b19 of_b37 (by decide)))).trans ((th_up_n ((of_ne of_b19 of_b28 (by decide)))).trans (th_up_s)))
  have g_b28 : (th_up (th_up (th_up (th_up Γ9 b19 (28, a0)) b28 (29, a0)) b37 (30, a0)) b45 (31, a0)) b28 = (29, a0) := (th_up_n ((of_ne of_b28 of_b45 (by decide)))).trans ((th_up_n ((of_ne of_b28 of_b37 (by decide)))).trans (th_up_s))
  have g_b37 : (th_up (th_up (th_up (th_up Γ9 b19 (28, a0)) b28 (29, a0)) b37 (30, a0)) b45 (31, a0)) b37 = (30, a0) := (th_up_n ((of_ne of_b37 of_b45 (by decide)))).trans (th_up_s)
  have g_b45 : (th_up (th_up (th_up (th_up Γ9 b19 (28, a0)) b28 (29, a0)) b37 (30, a0)) b45 (31, a0)) b45 = (31, a0) := th_up_s
  have nm0 : ¬ th_MR G (th_up (th_up (th_up (th_up Γ9 b19 (28, a0)) b28 (29, a0)) b37 (30, a0)) b45 (31, a0)) H57 a0 := fun w => hB.2.2.1 (th_MR_up (show (28 : Nat) ≠ 12 by decide) (th_MR_up (show (29 : Nat) ≠ 12 by decide) (th_MR_up (show (30 : Nat) ≠ 12 by decide) (th_MR_up (show (31 : Nat) ≠ 12 by decide) w))))
  have hI2 := th_nmO (r := 27) hI1 ho hsz ro_27 rfl (fun j q hq => by
    match j, hq with
    | 0, hq => have e9 := Option.some.inj hq; subst e9; exact th_sR ((th_up_n (of_ne of_b5 of_b45 (by decide))).trans ((th_up_n (of_ne of_b5 of_b37 (by decide))).trans ((th_up_n (of_ne of_b5 of_b28 (by decide))).trans ((th_up_n (of_ne of_b5 of_b19 (by decide))).trans hr_b5))))
    | 1, hq => have e9 := Option.some.inj hq; subst e9; exact th_sO g_b19
    | 2, hq => have e9 := Option.some.inj hq; subst e9; exact th_sO g_b28
    | 3, hq => have e9 := Option.some.inj hq; subst e9; exact th_sO g_b37
    | 4, hq => have e9 := Option.some.inj hq; subst e9; exact th_sO g_b45
    | 5, hq => have e9 := Option.some.inj hq; subst e9; exact th_sI (x := 0) (by decide) (by decide)
    | 6, hq => have e9 := Option.some.inj hq; subst e9; exact th_sI (x := 0) (by decide) (by decide)
    | 7, hq => have e9 := Option.some.inj hq; subst e9; exact th_sN
    | 8, hq => have e9 := Option.some.inj hq; subst e9; exact th_sN
    | 9, hq => have e9 := Option.some.inj hq; subst e9; exact th_sN
    | 10, hq => have e9 := Option.some.inj hq; subst e9; exact th_sN
    | 11, hq => have e9 := Option.some.inj hq; subst e9; exact th_sI (x := 0) (by decide) (by decide)
    | 12, hq => have e9 := Option.some.inj hq; subst e9; exact th_sI (x := 0) (by decide) (by decide)
    | 13, hq => have e9 := Option.some.inj hq; subst e9; exact th_sI (x := 0) (by decide) (by decide)
    | n + 14, hq => exact absurd (List.getElem?_eq_some_iff.mp hq).1 (by simp))
  have hR2 := th_RC_up hI1 hR1 (x := (27, 0)) ho.1 nm0 hI2 (fun e => absurd e (by decide)) (fun e => absurd e (by decide)) (by decide)
  have hIN2 := th_IN_up (b := a0) (x := (27, 0)) hIN (ini_f (r := 27) ho rfl rfl rfl (fun j x hm => by
    cases hm) (fun j d hm => by
    rcases List.mem_cons.mp hm with e | hm
    · cases e; exact ⟨by decide, by rw [← of_b5]; rfl⟩
    rcases List.mem_cons.mp hm with e | hm
    · cases e; exact ⟨by decide, by rw [← of_b19]; rfl⟩
    rcases List.mem_cons.mp hm with e | hm
    · cases e; exact ⟨by decide, by rw [← of_b28]; rfl⟩
    rcases List.mem_cons.mp hm with e | hm
    · cases e; exact ⟨by decide, by rw [← of_b37]; rfl⟩
    rcases List.mem_cons.mp hm with e | hm
    · cases e; exact ⟨by decide, by rw [← of_b45]; rfl⟩
    cases hm))
  have gq : ∀ q, q < H0.size → q ≠ a0 → (th_up (th_up (th_up (th_up (th_up Γ9 b19 (28, a0)) b28 (29, a0)) b37 (30, a0)) b45 (31, a0)) a0 (27, 0)) q = Γ9 q := fun q h1 h2 => (((((th_up_n h2).trans (th_up_n (by have q9 := lb45; omega))).trans (th_up_n (by have q9 := lb37; omega))).trans (th_up_n (by have q9 := lb28; omega))).trans (th_up_n (by have q9 := lb19; omega)))
  refine th_vret hC hH hr hlocks hB.1.2.1 ⟨rfl, (th_up (th_up (th_up (th_up (th_up Γ9 b19 (28, a0)) b28 (29, a0)) b37 (30, a0)) b45 (31, a0)) a0 (27, 0)), ⟨⟨hI2, (by omega), fun q h1 h2 => ⟨(gq q h1 h2).trans (hB.1.2.2.2.1 q h1 h2), hB.1.2.2.1 q h1 h2⟩⟩, hR2, th_up_s, fun q w => hB.2.2.2 q (th_MR_up (show (28 : Nat) ≠ 12 by decide) (th_MR_up (show (29 : Nat) ≠ 12 by decide) (th_MR_up (show (30 : Nat) ≠ 12 by decide) (th_MR_up (show (31 : Nat) ≠ 12 by decide) (th_MR_up (show (27 : Nat) ≠ 12 by decide) w))))), fun q x o hg hq hs => ?_⟩, hIN2, hs⟩ dX7_init_60
  by_cases e_a0 : q = a0
  · rw [e_a0, th_up_s] at hg; cases hg; decide
  rw [th_up_n e_a0] at hg
  by_cases e_b45 : q = b45
  · rw [e_b45, th_up_s] at hg; cases hg; decide
  rw [th_up_n e_b45] at hg
  by_cases e_b37 : q = b37
  · rw [e_b37, th_up_s] at hg; cases hg; decide
  rw [th_up_n e_b37] at hg
  by_cases e_b28 : q = b28
  · rw [e_b28, th_up_s] at hg; cases hg; decide
  rw [th_up_n e_b28] at hg
  by_cases e_b19 : q = b19
  · rw [e_b19, th_up_s] at hg; cases hg; decide
  rw [th_up_n e_b19] at hg
  exact (show ∀ x ∈ (([] ++ [12]) : List Nat), x ∈ [12, 27, 28, 29, 30, 31] by decide) x (hN q x o hg hq hs)
end
section
set_option maxHeartbeats 4000000 in
set_option maxRecDepth 100000 in
theorem c_X11_init_i (l : Launch) (G : th_G) (Γ : th_Ga) (H0 : Heap) (hI : th_I G Γ H0) (hR : th_RC G Γ H0) (a0 : Nat) (ho : th_OB G Γ H0 a0 11 18 (fun j => defaultValue (tyX11 j))) (hsz : G.2.2 ≤ a0) (hlt : a0 < H0.size) (hm : ¬ th_MR G Γ H0 a0) (hz1 : H0.size = a0 + 1) (hno : ∀ a o : Nat, Γ a ≠ (12, o)) : Met l yX11_init (.code yX11_init cX11_init 2 (none) :: th_tb) ({ frames := 3, cells := 152, slots := 20101, locals := 64 } : Room) (th_P [.ref a0] G H0) (th_Q (fun (v : Option Value) (H1 : Heap) => v = none ∧ ∃ Γ1 : th_Ga, th_NY G Γ Γ1 a0 42 [1, 2, 3, 4, 5, 6, 7, 8, 9, 10, 11, 12, 17, 18, 19, 20, 21, 22, 23, 24, 25, 26, 27, 28, 29, 30, 31, 32, 33, 34, 35, 36, 37, 38, 39, 40, 41, 42, 43, 44, 45] H0 H1 ∧ th_IN G Γ1 a0 H0 H1 ∧ H1.size = H0.size + 152) G) 152 20101 (fun q => G.2.2 ≤ q) := by
  refine th_met RX11 (by decide) rfl (Nat.le_of_ble_eq_true rfl) ?_
  intro p e s m below meth c hC hH hr hlocks hnm ls hl
  have hx := hC.1
  have hb := hC.2.1
  have hB : th_NR G Γ Γ a0 H0 H0 [] := ⟨⟨hI, va_S.rf, fun _ _ _ => rfl, fun _ _ _ => rfl, ho.1, hsz, hlt⟩, hR, hm, fun q w => Or.inl w⟩
  have hl : lv_has ls 2 [(0, .ref a0)] := hl
  have hs : H0.size ≤ H0.size := Nat.le_refl _
  have hN := th_new_0 (a0 := a0) hI ho.1
  have hIN := th_IN_0 (a0 := a0) hI ho.1
  refine lv_aload_n hx hb dX11_init_0 rfl (lv_at hl 0 rfl) ?_
  refine W.objInit hx hb hC.2.2.2.1 (hC.2.2.2.2.1 _ kw_27) (hC.2.2.2.2.1 _ kw_28) (hC.2.2.2.2.1 _ kw_29) rfl (hl.1.trans hC.2.2.1.symm) rfl dX11_init_1 (Nat.le_of_ble_eq_true rfl) (Nat.le_of_ble_eq_true rfl) ?_
  refine W.eq (g2 := F0 m 4 ls []) rfl ?_
  refine lv_aload_n hx hb dX11_init_4 rfl (lv_at hl 0 rfl) ?_
  refine tc_new hC cf_X8 hB.1 kw_30 kw_31 kw_2 (Nat.le_of_ble_eq_true rfl) (Nat.le_of_ble_eq_true rfl) dX11_init_5 (fun b5 H5 eb5 zb5 oq5 hB1 kn => ?_)
  have of_b5 : b5 = a0 + 1 := by omega
  have n50 : ¬ th_MR G Γ H0 b5 := fun w => absurd (th_MR_lt hB.2.1 w) (by omega)
  have u5 := kn.1
  have hB := th_NR_s hB hB1 u5 n50 (by omega) oq5
  have hIN := th_IN_s hIN u5 oq5
  have nb : ¬ th_MR G Γ H5 b5 := fun w => n50 (th_MR_s u5 oq5 w)
  have ho := tc_OBo ho oq5 (by omega)
  have lbn : H0.size ≤ b5 := by omega
  have ltn : b5 < H5.size := by omega
  have szn : G.2.2 ≤ b5 := by have q9 := hB.1.2.2.2.2.2.1; have q8 := hB.1.2.2.2.2.2.2; omega
  have hs : H5.size = H0.size + 1 := by omega
  refine lv_dup hx hb dX11_init_8 rfl ?_
  refine th_call (th_runI (As := []) (rest := [.ref b5, .ref a0]) hC mf_X8_init km_X11_11 im_X8_init rfl (c_X8_init_i l G Γ H5 hB.1.1 hB.2.1 b5 kn szn ltn nb (by omega)) rfl rfl ⟨Nat.le_of_ble_eq_true rfl, Nat.le_of_ble_eq_true rfl⟩ rfl hl.1 rfl (Nat.le_of_ble_eq_true rfl) dX11_init_9 ⟨Nat.le_of_ble_eq_true rfl, Nat.le_of_ble_eq_true rfl⟩) hB.1.2.1 (fun v9 H9 locs hp hz hS => ?_)
  obtain ⟨rfl, Γ9, hy, hi, hzn⟩ := hp
  have hB := th_NR_c hB hy lbn hS
  have hIN := th_IN_c hIN hy hi
  have ho := tc_OBc ho hy (by omega) (by omega)
  have hr_b5 := hy.2.2.1
  have hs : H9.size = H0.size + 31 := by omega
  have hN := th_new_c hN hy
  refine W.eq (g2 := F0 m 12 ls [.ref b5, .ref a0]) rfl ?_
  refine tc_putF hC cf_X11 hB.1 ho (j := 0) (by decide) rfl hnm rfl rfl kf_X11_12 dX11_init_12 (fun H12 locs hB1 ho z12 oq12 => ?_)
  have hu := hB.1.2.2.2.2.1
  have hB := th_NR_s hB hB1 hu hB.2.2.1 (by omega) oq12
  have hIN := th_IN_s hIN hu oq12
  have hs : H12.size = H0.size + 31 := by omega
  refine lv_aload_n hx hb dX11_init_15 rfl (lv_at hl 0 rfl) ?_
  refine lv_iconst (v := 2) hx hb dX11_init_16 (by decide) ?_
  refine tc_anew (t := 5) hC hB.1 rfl hC.2.2.2.2.2.2.2 kw_30 (N := 2) tk_2 (by decide) (Nat.le_of_ble_eq_true rfl) (Nat.le_of_ble_eq_true rfl) dX11_init_17 (fun b17 H17 eb17 zb17 oq17 hB1 k17 => ?_)
  have u17 := k17.2.1
  have of_b17 : b17 = a0 + 32 := by omega
  have n170 : ¬ th_MR G Γ9 H12 b17 := fun w => absurd (th_MR_lt hB.2.1 w) (by omega)
  have hB := th_NR_s hB hB1 u17 n170 (by omega) oq17
  have hIN := th_IN_s hIN u17 oq17
  have n17 : ¬ th_MR G Γ9 H17 b17 := fun w => n170 (th_MR_s u17 oq17 w)
  have lb17 : H0.size ≤ b17 := by omega
  have ho := tc_OBo ho oq17 (by omega)
  have hs : H17.size = H0.size + 32 := by omega
  refine tc_putF hC cf_X11 hB.1 ho (j := 1) (by decide) rfl hnm rfl rfl kf_X11_16 dX11_init_20 (fun H20 locs hB1 ho z20 oq20 => ?_)
  have hu := hB.1.2.2.2.2.1
  have hB := th_NR_s hB hB1 hu hB.2.2.1 (by omega) oq20
  have hIN := th_IN_s hIN hu oq20
  have k17x := tm_MAo k17 oq20 (of_n0 of_b17 (by decide))
  have n17x : ¬ th_MR G Γ9 H20 b17 := fun w => n17 (th_MR_s hu oq20 w)
  have hs : H20.size = H0.size + 32 := by omega
  refine lv_aload_n hx hb dX11_init_23 rfl (lv_at hl 0 rfl) ?_
  refine lv_iconst (v := 2) hx hb dX11_init_24 (by decide) ?_
  refine tc_newa (ty := .boolean) (t := 2) hC hB.1 rfl rfl rfl kw_187 (N := 2) tk_2 (by decide) (Nat.le_of_ble_eq_true rfl) (Nat.le_of_ble_eq_true rfl) dX11_init_25 (fun b25 H25 eb25 zb25 oq25 hB1 k25 => ?_)
  have u25 := k25.2.1
  have of_b25 : b25 = a0 + 33 := by omega
  have n250 : ¬ th_MR G Γ9 H20 b25 := fun w => absurd (th_MR_lt hB.2.1 w) (by omega)
  have hB := th_NR_s hB hB1 u25 n250 (by omega) oq25
  have hIN := th_IN_s hIN u25 oq25
  have n25 : ¬ th_MR G Γ9 H25 b25 := fun w => n250 (th_MR_s u25 oq25 w)
  have lb25 : H0.size ≤ b25 := by omega
  have ho := tc_OBo ho oq25 (by omega)
  have k17xx := tm_MAo k17x oq25 (of_ne of_b17 of_b25 (by decide))
  have n17xx : ¬ th_MR G Γ9 H25 b17 := fun w => n17x (th_MR_s u25 oq25 w)
  have hs : H25.size = H0.size + 33 := by omega
  refine tc_putF hC cf_X11 hB.1 ho (j := 2) (by decide) rfl hnm rfl rfl kf_X11_20 dX11_init_27 (fun H27 locs hB1 ho z27 oq27 => ?_)
  have hu := hB.1.2.2.2.2.1
  have hB := th_NR_s hB hB1 hu hB.2.2.1 (by omega) oq27
  have hIN := th_IN_s hIN hu oq27
  have k17xxx := tm_MAo k17xx oq27 (of_n0 of_b17 (by decide))
  have n17xxx : ¬ th_MR G Γ9 H27 b17 := fun w => n17xx (th_MR_s hu oq27 w)
  have k25x := tm_MAo k25 oq27 (of_n0 of_b25 (by decide))
  have n25x : ¬ th_MR G Γ9 H27 b25 := fun w => n25 (th_MR_s hu oq27 w)
  have hs : H27.size = H0.size + 33 := by omega
  refine lv_aload_n hx hb dX11_init_30 rfl (lv_at hl 0 rfl) ?_
  refine tc_new hC cf_X1 hB.1 kw_168 kw_37 kw_3 (Nat.le_of_ble_eq_true rfl) (Nat.le_of_ble_eq_true rfl) dX11_init_31 (fun b31 H31 eb31 zb31 oq31 hB1 kn => ?_)
  have of_b31 : b31 = a0 + 34 := by omega
  have n310 : ¬ th_MR G Γ9 H27 b31 := fun w => absurd (th_MR_lt hB.2.1 w) (by omega)
  have u31 := kn.1
  have hB := th_NR_s hB hB1 u31 n310 (by omega) oq31
  have hIN := th_IN_s hIN u31 oq31
  have nb : ¬ th_MR G Γ9 H31 b31 := fun w => n310 (th_MR_s u31 oq31 w)
  have ho := tc_OBo ho oq31 (by omega)
  have k17xxxx := tm_MAo k17xxx oq31 (of_ne of_b17 of_b31 (by decide))
  have n17xxxx : ¬ th_MR G Γ9 H31 b17 := fun w => n17xxx (th_MR_s u31 oq31 w)
  have k25xx := tm_MAo k25x oq31 (of_ne of_b25 of_b31 (by decide))
  have n25xx : ¬ th_MR G Γ9 H31 b25 := fun w => n25x (th_MR_s u31 oq31 w)
  have lbn : H0.size ≤ b31 := by omega
  have ltn : b31 < H31.size := by omega
  have szn : G.2.2 ≤ b31 := by have q9 := hB.1.2.2.2.2.2.1; have q8 := hB.1.2.2.2.2.2.2; omega
  have hs : H31.size = H0.size + 34 := by omega
  refine lv_dup hx hb dX11_init_34 rfl ?_
  refine th_call (th_runI (As := []) (rest := [.ref b31, .ref a0]) hC mf_X1_init km_X11_26 im_X1_init rfl (c_X1_init_i l G Γ9 H31 hB.1.1 hB.2.1 b31 kn szn ltn nb (by omega)) rfl rfl ⟨Nat.le_of_ble_eq_true rfl, Nat.le_of_ble_eq_true rfl⟩ rfl hl.1 rfl (Nat.le_of_ble_eq_true rfl) dX11_init_35 ⟨Nat.le_of_ble_eq_true rfl, Nat.le_of_ble_eq_true rfl⟩) hB.1.2.1 (fun v35 H35 locs hp hz hS => ?_)
  obtain ⟨rfl, Γ35, hy, hi, hzn⟩ := hp
  have hB := th_NR_c hB hy lbn hS
  have hIN := th_IN_c hIN hy hi
  have ho := tc_OBc ho hy (by omega) (by omega)
  have n17xxxxx : ¬ th_MR G Γ35 H35 b17 := fun w => (hy.2.2.2.1 _ w).elim n17xxxx (fun w => absurd w (by have q9 := (of_lt hz1 hs of_b17 (by decide)); omega))
  have k17xxxxx := tc_MAc k17xxxx hy (of_ne of_b17 of_b31 (by decide))
  have n25xxx : ¬ th_MR G Γ35 H35 b25 := fun w => (hy.2.2.2.1 _ w).elim n25xx (fun w => absurd w (by have q9 := (of_lt hz1 hs of_b25 (by decide)); omega))
  have k25xxx := tc_MAc k25xx hy (of_ne of_b25 of_b31 (by decide))
  have hr_b5x := (hy.1.2.2 b5 (of_lt hz1 hs of_b5 (by decide)) (of_ne of_b5 of_b31 (by decide))).1.trans hr_b5
  have hr_b31 := hy.2.2.1
  have hs : H35.size = H0.size + 41 := by omega
  have hN := th_new_c hN hy
  refine W.eq (g2 := F0 m 38 ls [.ref b31, .ref a0]) rfl ?_
  refine tc_putF hC cf_X11 hB.1 ho (j := 3) (by decide) rfl hnm rfl rfl kf_X11_27 dX11_init_38 (fun H38 locs hB1 ho z38 oq38 => ?_)
  have hu := hB.1.2.2.2.2.1
  have hB := th_NR_s hB hB1 hu hB.2.2.1 (by omega) oq38
  have hIN := th_IN_s hIN hu oq38
  have k17xxxxxx := tm_MAo k17xxxxx oq38 (of_n0 of_b17 (by decide))
  have n17xxxxxx : ¬ th_MR G Γ35 H38 b17 := fun w => n17xxxxx (th_MR_s hu oq38 w)
  have k25xxxx := tm_MAo k25xxx oq38 (of_n0 of_b25 (by decide))
  have n25xxxx : ¬ th_MR G Γ35 H38 b25 := fun w => n25xxx (th_MR_s hu oq38 w)
  have hs : H38.size = H0.size + 41 := by omega
  refine lv_aload_n hx hb dX11_init_41 rfl (lv_at hl 0 rfl) ?_
  refine tc_new hC cf_X1 hB.1 kw_168 kw_37 kw_3 (Nat.le_of_ble_eq_true rfl) (Nat.le_of_ble_eq_true rfl) dX11_init_42 (fun b42 H42 eb42 zb42 oq42 hB1 kn => ?_)
  have of_b42 : b42 = a0 + 42 := by omega
  have n420 : ¬ th_MR G Γ35 H38 b42 := fun w => absurd (th_MR_lt hB.2.1 w) (by omega)
  have u42 := kn.1
  have hB := th_NR_s hB hB1 u42 n420 (by omega) oq42
  have hIN := th_IN_s hIN u42 oq42
  have nb : ¬ th_MR G Γ35 H42 b42 := fun w => n420 (th_MR_s u42 oq42 w)
  have ho := tc_OBo ho oq42 (by omega)
  have k17xxxxxxx := tm_MAo k17xxxxxx oq42 (of_ne of_b17 of_b42 (by decide))
  have n17xxxxxxx : ¬ th_MR G Γ35 H42 b17 := fun w => n17xxxxxx (th_MR_s u42 oq42 w)
  have k25xxxxx := tm_MAo k25xxxx oq42 (of_ne of_b25 of_b42 (by decide))
  have n25xxxxx : ¬ th_MR G Γ35 H42 b25 := fun w => n25xxxx (th_MR_s u42 oq42 w)
  have lbn : H0.size ≤ b42 := by omega
  have ltn : b42 < H42.size := by omega
  have szn : G.2.2 ≤ b42 := by have q9 := hB.1.2.2.2.2.2.1; have q8 := hB.1.2.2.2.2.2.2; omega
  have hs : H42.size = H0.size + 42 := by omega
  refine lv_dup hx hb dX11_init_45 rfl ?_
  refine th_call (th_runI (As := []) (rest := [.ref b42, .ref a0]) hC mf_X1_init km_X11_26 im_X1_init rfl (c_X1_init_i l G Γ35 H42 hB.1.1 hB.2.1 b42 kn szn ltn nb (by omega)) rfl rfl ⟨Nat.le_of_ble_eq_true rfl, Nat.le_of_ble_eq_true rfl⟩ rfl hl.1 rfl (Nat.le_of_ble_eq_true rfl) dX11_init_46 ⟨Nat.le_of_ble_eq_true rfl, Nat.le_of_ble_eq_true rfl⟩) hB.1.2.1 (fun v46 H46 locs hp hz hS => ?_)
  obtain ⟨rfl, Γ46, hy, hi, hzn⟩ := hp
  have hB := th_NR_c hB hy lbn hS
  have hIN := th_IN_c hIN hy hi
  have ho := tc_OBc ho hy (by omega) (by omega)
  have n17xxxxxxxx : ¬ th_MR G Γ46 H46 b17 := fun w => (hy.2.2.2.1 _ w).elim n17xxxxxxx (fun w => absurd w (by have q9 := (of_lt hz1 hs of_b17 (by decide)); omega))
  have k17xxxxxxxx := tc_MAc k17xxxxxxx hy (of_ne of_b17 of_b42 (by decide))
  have n25xxxxxx : ¬ th_MR G Γ46 H46 b25 := fun w => (hy.2.2.2.1 _ w).elim n25xxxxx (fun w => absurd w (by have q9 := (of_lt hz1 hs of_b25 (by decide)); omega))
  have k25xxxxxx := tc_MAc k25xxxxx hy (of_ne of_b25 of_b42 (by decide))
  have hr_b5xx := (hy.1.2.2 b5 (of_lt hz1 hs of_b5 (by decide)) (of_ne of_b5 of_b42 (by decide))).1.trans hr_b5x
  have hr_b31x := (hy.1.2.2 b31 (of_lt hz1 hs of_b31 (by decide)) (of_ne of_b31 of_b42 (by decide))).1.trans hr_b31
  have hr_b42 := hy.2.2.1
  have hs : H46.size = H0.size + 49 := by omega
  have hN := th_new_c hN hy
  refine W.eq (g2 := F0 m 49 ls [.ref b42, .ref a0]) rfl ?_
  refine tc_putF hC cf_X11 hB.1 ho (j := 4) (by decide) rfl hnm rfl rfl kf_X11_31 dX11_init_49 (fun H49 locs hB1 ho z49 oq49 => ?_)
  have hu := hB.1.2.2.2.2.1
  have hB := th_NR_s hB hB1 hu hB.2.2.1 (by omega) oq49
  have hIN := th_IN_s hIN hu oq49
  have k17xxxxxxxxx := tm_MAo k17xxxxxxxx oq49 (of_n0 of_b17 (by decide))
  have n17xxxxxxxxx : ¬ th_MR G Γ46 H49 b17 := fun w => n17xxxxxxxx (th_MR_s hu oq49 w)
  have k25xxxxxxx := tm_MAo k25xxxxxx oq49 (of_n0 of_b25 (by decide))
  have n25xxxxxxx : ¬ th_MR G Γ46 H49 b25 := fun w => n25xxxxxx (th_MR_s hu oq49 w)
  have hs : H49.size = H0.size + 49 := by omega
  refine lv_aload_n hx hb dX11_init_52 rfl (lv_at hl 0 rfl) ?_
  refine tc_new hC cf_X9 hB.1 kw_170 kw_171 kw_5 (Nat.le_of_ble_eq_true rfl) (Nat.le_of_ble_eq_true rfl) dX11_init_53 (fun b53 H53 eb53 zb53 oq53 hB1 kn => ?_)
  have of_b53 : b53 = a0 + 50 := by omega
  have n530 : ¬ th_MR G Γ46 H49 b53 := fun w => absurd (th_MR_lt hB.2.1 w) (by omega)
  have u53 := kn.1
  have hB := th_NR_s hB hB1 u53 n530 (by omega) oq53
  have hIN := th_IN_s hIN u53 oq53
  have nb : ¬ th_MR G Γ46 H53 b53 := fun w => n530 (th_MR_s u53 oq53 w)
  have ho := tc_OBo ho oq53 (by omega)
  have k17xxxxxxxxxx := tm_MAo k17xxxxxxxxx oq53 (of_ne of_b17 of_b53 (by decide))
  have n17xxxxxxxxxx : ¬ th_MR G Γ46 H53 b17 := fun w => n17xxxxxxxxx (th_MR_s u53 oq53 w)
  have k25xxxxxxxx := tm_MAo k25xxxxxxx oq53 (of_ne of_b25 of_b53 (by decide))
  have n25xxxxxxxx : ¬ th_MR G Γ46 H53 b25 := fun w => n25xxxxxxx (th_MR_s u53 oq53 w)
  have lbn : H0.size ≤ b53 := by omega
  have ltn : b53 < H53.size := by omega
  have szn : G.2.2 ≤ b53 := by have q9 := hB.1.2.2.2.2.2.1; have q8 := hB.1.2.2.2.2.2.2; omega
  have hs : H53.size = H0.size + 50 := by omega
  refine lv_dup hx hb dX11_init_56 rfl ?_
  refine th_call (th_runI (As := []) (rest := [.ref b53, .ref a0]) hC mf_X9_init km_X11_36 im_X9_init rfl (c_X9_init_i l G Γ46 H53 hB.1.1 hB.2.1 b53 kn szn ltn nb (by omega)) rfl rfl ⟨Nat.le_of_ble_eq_true rfl, Nat.le_of_ble_eq_true rfl⟩ rfl hl.1 rfl (Nat.le_of_ble_eq_true rfl) dX11_init_57 ⟨Nat.le_of_ble_eq_true rfl, Nat.le_of_ble_eq_true rfl⟩) hB.1.2.1 (fun v57 H57 locs hp hz hS => ?_)
  obtain ⟨rfl, Γ57, hy, hi, hzn⟩ := hp
  have hB := th_NR_c hB hy lbn hS
  have hIN := th_IN_c hIN hy hi
  have ho := tc_OBc ho hy (by omega) (by omega)
  have n17xxxxxxxxxxx : ¬ th_MR G Γ57 H57 b17 := fun w => (hy.2.2.2.1 _ w).elim n17xxxxxxxxxx (fun w => absurd w (by have q9 := (of_lt hz1 hs of_b17 (by decide)); omega))
  have k17xxxxxxxxxxx := tc_MAc k17xxxxxxxxxx hy (of_ne of_b17 of_b53 (by decide))
  have n25xxxxxxxxx : ¬ th_MR G Γ57 H57 b25 := fun w => (hy.2.2.2.1 _ w).elim n25xxxxxxxx (fun w => absurd w (by have q9 := (of_lt hz1 hs of_b25 (by decide)); omega))
  have k25xxxxxxxxx := tc_MAc k25xxxxxxxx hy (of_ne of_b25 of_b53 (by decide))
  have hr_b5xxx := (hy.1.2.2 b5 (of_lt hz1 hs of_b5 (by decide)) (of_ne of_b5 of_b53 (by decide))).1.trans hr_b5xx
  have hr_b31xx := (hy.1.2.2 b31 (of_lt hz1 hs of_b31 (by decide)) (of_ne of_b31 of_b53 (by decide))).1.trans hr_b31x
  have hr_b42x := (hy.1.2.2 b42 (of_lt hz1 hs of_b42 (by decide)) (of_ne of_b42 of_b53 (by decide))).1.trans hr_b42
  have hr_b53 := hy.2.2.1
  have hs : H57.size = H0.size + 51 := by omega
  have hN := th_new_c hN hy
  refine W.eq (g2 := F0 m 60 ls [.ref b53, .ref a0]) rfl ?_
  refine tc_putF hC cf_X11 hB.1 ho (j := 5) (by decide) rfl hnm rfl rfl kf_X11_37 dX11_init_60 (fun H60 locs hB1 ho z60 oq60 => ?_)
  have hu := hB.1.2.2.2.2.1
  have hB := th_NR_s hB hB1 hu hB.2.2.1 (by omega) oq60
  have hIN := th_IN_s hIN hu oq60
  have k17xxxxxxxxxxxx := tm_MAo k17xxxxxxxxxxx oq60 (of_n0 of_b17 (by decide))
  have n17xxxxxxxxxxxx : ¬ th_MR G Γ57 H60 b17 := fun w => n17xxxxxxxxxxx (th_MR_s hu oq60 w)
  have k25xxxxxxxxxx := tm_MAo k25xxxxxxxxx oq60 (of_n0 of_b25 (by decide))
  have n25xxxxxxxxxx : ¬ th_MR G Γ57 H60 b25 := fun w => n25xxxxxxxxx (th_MR_s hu oq60 w)
  have hs : H60.size = H0.size + 51 := by omega
  refine lv_aload_n hx hb dX11_init_63 rfl (lv_at hl 0 rfl) ?_
  refine tc_new hC cf_X5 hB.1 kw_188 kw_189 kw_6 (Nat.le_of_ble_eq_true rfl) (Nat.le_of_ble_eq_true rfl) dX11_init_64 (fun b64 H64 eb64 zb64 oq64 hB1 kn => ?_)
  have of_b64 : b64 = a0 + 52 := by omega
  have n640 : ¬ th_MR G Γ57 H60 b64 := fun w => absurd (th_MR_lt hB.2.1 w) (by omega)
  have u64 := kn.1
  have hB := th_NR_s hB hB1 u64 n640 (by omega) oq64
  have hIN := th_IN_s hIN u64 oq64
  have nb : ¬ th_MR G Γ57 H64 b64 := fun w => n640 (th_MR_s u64 oq64 w)
  have ho := tc_OBo ho oq64 (by omega)
  have k17xxxxxxxxxxxxx := tm_MAo k17xxxxxxxxxxxx oq64 (of_ne of_b17 of_b64 (by decide))
  have n17xxxxxxxxxxxxx : ¬ th_MR G Γ57 H64 b17 := fun w => n17xxxxxxxxxxxx (th_MR_s u64 oq64 w)
  have k25xxxxxxxxxxx := tm_MAo k25xxxxxxxxxx oq64 (of_ne of_b25 of_b64 (by decide))
  have n25xxxxxxxxxxx : ¬ th_MR G Γ57 H64 b25 := fun w => n25xxxxxxxxxx (th_MR_s u64 oq64 w)
  have lbn : H0.size ≤ b64 := by omega
  have ltn : b64 < H64.size := by omega
  have szn : G.2.2 ≤ b64 := by have q9 := hB.1.2.2.2.2.2.1; have q8 := hB.1.2.2.2.2.2.2; omega
  have hs : H64.size = H0.size + 52 := by omega
  refine lv_dup hx hb dX11_init_67 rfl ?_
  refine th_call (th_runI (As := []) (rest := [.ref b64, .ref a0]) hC mf_X5_init km_X11_43 im_X5_init rfl (c_X5_init_i l G Γ57 H64 hB.1.1 hB.2.1 b64 kn szn ltn nb (by omega)) rfl rfl ⟨Nat.le_of_ble_eq_true rfl, Nat.le_of_ble_eq_true rfl⟩ rfl hl.1 rfl (Nat.le_of_ble_eq_true rfl) dX11_init_68 ⟨Nat.le_of_ble_eq_true rfl, Nat.le_of_ble_eq_true rfl⟩) hB.1.2.1 (fun v68 H68 locs hp hz hS => ?_)
  obtain ⟨rfl, Γ68, hy, hi, hzn⟩ := hp
  have hB := th_NR_c hB hy lbn hS
  have hIN := th_IN_c hIN hy hi
  have ho := tc_OBc ho hy (by omega) (by omega)
  have n17xxxxxxxxxxxxxx : ¬ th_MR G Γ68 H68 b17 := fun w => (hy.2.2.2.1 _ w).elim n17xxxxxxxxxxxxx (fun w => absurd w (by have q9 := (of_lt hz1 hs of_b17 (by decide)); omega))
  have k17xxxxxxxxxxxxxx := tc_MAc k17xxxxxxxxxxxxx hy (of_ne of_b17 of_b64 (by decide))
  have n25xxxxxxxxxxxx : ¬ th_MR G Γ68 H68 b25 := fun w => (hy.2.2.2.1 _ w).elim n25xxxxxxxxxxx (fun w => absurd w (by have q9 := (of_lt hz1 hs of_b25 (by decide)); omega))
  have k25xxxxxxxxxxxx := tc_MAc k25xxxxxxxxxxx hy (of_ne of_b25 of_b64 (by decide))
  have hr_b5xxxx := (hy.1.2.2 b5 (of_lt hz1 hs of_b5 (by decide)) (of_ne of_b5 of_b64 (by decide))).1.trans hr_b5xxx
  have hr_b31xxx := (hy.1.2.2 b31 (of_lt hz1 hs of_b31 (by decide)) (of_ne of_b31 of_b64 (by decide))).1.trans hr_b31xx
  have hr_b42xx := (hy.1.2.2 b42 (of_lt hz1 hs of_b42 (by decide)) (of_ne of_b42 of_b64 (by decide))).1.trans hr_b42x
  have hr_b53x := (hy.1.2.2 b53 (of_lt hz1 hs of_b53 (by decide)) (of_ne of_b53 of_b64 (by decide))).1.trans hr_b53
  have hr_b64 := hy.2.2.1
  have hs : H68.size = H0.size + 54 := by omega
  have hN := th_new_c hN hy
  refine W.eq (g2 := F0 m 71 ls [.ref b64, .ref a0]) rfl ?_
  refine tc_putF hC cf_X11 hB.1 ho (j := 6) (by decide) rfl hnm rfl rfl kf_X11_44 dX11_init_71 (fun H71 locs hB1 ho z71 oq71 => ?_)
  have hu := hB.1.2.2.2.2.1
  have hB := th_NR_s hB hB1 hu hB.2.2.1 (by omega) oq71
  have hIN := th_IN_s hIN hu oq71
  have k17xxxxxxxxxxxxxxx := tm_MAo k17xxxxxxxxxxxxxx oq71 (of_n0 of_b17 (by decide))
  have n17xxxxxxxxxxxxxxx : ¬ th_MR G Γ68 H71 b17 := fun w => n17xxxxxxxxxxxxxx (th_MR_s hu oq71 w)
  have k25xxxxxxxxxxxxx := tm_MAo k25xxxxxxxxxxxx oq71 (of_n0 of_b25 (by decide))
  have n25xxxxxxxxxxxxx : ¬ th_MR G Γ68 H71 b25 := fun w => n25xxxxxxxxxxxx (th_MR_s hu oq71 w)
  have hs : H71.size = H0.size + 54 := by omega
  refine lv_aload_n hx hb dX11_init_74 rfl (lv_at hl 0 rfl) ?_
  refine tc_new hC cf_X10 hB.1 kw_222 kw_107 kw_4 (Nat.le_of_ble_eq_true rfl) (Nat.le_of_ble_eq_true rfl) dX11_init_75 (fun b75 H75 eb75 zb75 oq75 hB1 kn => ?_)
  have of_b75 : b75 = a0 + 55 := by omega
  have n750 : ¬ th_MR G Γ68 H71 b75 := fun w => absurd (th_MR_lt hB.2.1 w) (by omega)
  have u75 := kn.1
  have hB := th_NR_s hB hB1 u75 n750 (by omega) oq75
  have hIN := th_IN_s hIN u75 oq75
  have nb : ¬ th_MR G Γ68 H75 b75 := fun w => n750 (th_MR_s u75 oq75 w)
  have ho := tc_OBo ho oq75 (by omega)
  have k17xxxxxxxxxxxxxxxx := tm_MAo k17xxxxxxxxxxxxxxx oq75 (of_ne of_b17 of_b75 (by decide))
  have n17xxxxxxxxxxxxxxxx : ¬ th_MR G Γ68 H75 b17 := fun w => n17xxxxxxxxxxxxxxx (th_MR_s u75 oq75 w)
  have k25xxxxxxxxxxxxxx := tm_MAo k25xxxxxxxxxxxxx oq75 (of_ne of_b25 of_b75 (by decide))
  have n25xxxxxxxxxxxxxx : ¬ th_MR G Γ68 H75 b25 := fun w => n25xxxxxxxxxxxxx (th_MR_s u75 oq75 w)
  have lbn : H0.size ≤ b75 := by omega
  have ltn : b75 < H75.size := by omega
  have szn : G.2.2 ≤ b75 := by have q9 := hB.1.2.2.2.2.2.1; have q8 := hB.1.2.2.2.2.2.2; omega
  have hs : H75.size = H0.size + 55 := by omega
  refine lv_dup hx hb dX11_init_78 rfl ?_
  refine th_call (th_runI (As := []) (rest := [.ref b75, .ref a0]) hC mf_X10_init km_X11_50 im_X10_init rfl (c_X10_init_i l G Γ68 H75 hB.1.1 hB.2.1 b75 kn szn ltn nb (by omega)) rfl rfl ⟨Nat.le_of_ble_eq_true rfl, Nat.le_of_ble_eq_true rfl⟩ rfl hl.1 rfl (Nat.le_of_ble_eq_true rfl) dX11_init_79 ⟨Nat.le_of_ble_eq_true rfl, Nat.le_of_ble_eq_true rfl⟩) hB.1.2.1 (fun v79 H79 locs hp hz hS => ?_)
  obtain ⟨rfl, Γ79, hy, hi, hzn⟩ := hp
  have hB := th_NR_c hB hy lbn hS
  have hIN := th_IN_c hIN hy hi
  have ho := tc_OBc ho hy (by omega) (by omega)
  have n17xxxxxxxxxxxxxxxxx : ¬ th_MR G Γ79 H79 b17 := fun w => (hy.2.2.2.1 _ w).elim n17xxxxxxxxxxxxxxxx (fun w => absurd w (by have q9 := (of_lt hz1 hs of_b17 (by decide)); omega))
  have k17xxxxxxxxxxxxxxxxx := tc_MAc k17xxxxxxxxxxxxxxxx hy (of_ne of_b17 of_b75 (by decide))
  have n25xxxxxxxxxxxxxxx : ¬ th_MR G Γ79 H79 b25 := fun w => (hy.2.2.2.1 _ w).elim n25xxxxxxxxxxxxxx (fun w => absurd w (by have q9 := (of_lt hz1 hs of_b25 (by decide)); omega))
  have k25xxxxxxxxxxxxxxx := tc_MAc k25xxxxxxxxxxxxxx hy (of_ne of_b25 of_b75 (by decide))
  have hr_b5xxxxx := (hy.1.2.2 b5 (of_lt hz1 hs of_b5 (by decide)) (of_ne of_b5 of_b75 (by decide))).1.trans hr_b5xxxx
  have hr_b31xxxx := (hy.1.2.2 b31 (of_lt hz1 hs of_b31 (by decide)) (of_ne of_b31 of_b75 (by decide))).1.trans hr_b31xxx
  have hr_b42xxx := (hy.1.2.2 b42 (of_lt hz1 hs of_b42 (by decide)) (of_ne of_b42 of_b75 (by decide))).1.trans hr_b42xx
  have hr_b53xx := (hy.1.2.2 b53 (of_lt hz1 hs of_b53 (by decide)) (of_ne of_b53 of_b75 (by decide))).1.trans hr_b53x
  have hr_b64x := (hy.1.2.2 b64 (of_lt hz1 hs of_b64 (by decide)) (of_ne of_b64 of_b75 (by decide))).1.trans hr_b64
  have hr_b75 := hy.2.2.1
  have hs : H79.size = H0.size + 57 := by omega
  have hN := th_new_c hN hy
  refine W.eq (g2 := F0 m 82 ls [.ref b75, .ref a0]) rfl ?_
  refine tc_putF hC cf_X11 hB.1 ho (j := 7) (by decide) rfl hnm rfl rfl kf_X11_51 dX11_init_82 (fun H82 locs hB1 ho z82 oq82 => ?_)
  have hu := hB.1.2.2.2.2.1
  have hB := th_NR_s hB hB1 hu hB.2.2.1 (by omega) oq82
  have hIN := th_IN_s hIN hu oq82
  have k17xxxxxxxxxxxxxxxxxx := tm_MAo k17xxxxxxxxxxxxxxxxx oq82 (of_n0 of_b17 (by decide))
  have n17xxxxxxxxxxxxxxxxxx : ¬ th_MR G Γ79 H82 b17 := fun w => n17xxxxxxxxxxxxxxxxx (th_MR_s hu oq82 w)
  have k25xxxxxxxxxxxxxxxx := tm_MAo k25xxxxxxxxxxxxxxx oq82 (of_n0 of_b25 (by decide))
  have n25xxxxxxxxxxxxxxxx : ¬ th_MR G Γ79 H82 b25 := fun w => n25xxxxxxxxxxxxxxx (th_MR_s hu oq82 w)
  have hs : H82.size = H0.size + 57 := by omega
  refine lv_aload_n hx hb dX11_init_85 rfl (lv_at hl 0 rfl) ?_
  refine tc_new hC cf_X6 hB.1 kw_224 kw_225 kw_7 (Nat.le_of_ble_eq_true rfl) (Nat.le_of_ble_eq_true rfl) dX11_init_86 (fun b86 H86 eb86 zb86 oq86 hB1 kn => ?_)
  have of_b86 : b86 = a0 + 58 := by omega
  have n860 : ¬ th_MR G Γ79 H82 b86 := fun w => absurd (th_MR_lt hB.2.1 w) (by omega)
  have u86 := kn.1
  have hB := th_NR_s hB hB1 u86 n860 (by omega) oq86
  have hIN := th_IN_s hIN u86 oq86
  have nb : ¬ th_MR G Γ79 H86 b86 := fun w => n860 (th_MR_s u86 oq86 w)
  have ho := tc_OBo ho oq86 (by omega)
  have k17xxxxxxxxxxxxxxxxxxx := tm_MAo k17xxxxxxxxxxxxxxxxxx oq86 (of_ne of_b17 of_b86 (by decide))
  have n17xxxxxxxxxxxxxxxxxxx : ¬ th_MR G Γ79 H86 b17 := fun w => n17xxxxxxxxxxxxxxxxxx (th_MR_s u86 oq86 w)
  have k25xxxxxxxxxxxxxxxxx := tm_MAo k25xxxxxxxxxxxxxxxx oq86 (of_ne of_b25 of_b86 (by decide))
  have n25xxxxxxxxxxxxxxxxx : ¬ th_MR G Γ79 H86 b25 := fun w => n25xxxxxxxxxxxxxxxx (th_MR_s u86 oq86 w)
  have lbn : H0.size ≤ b86 := by omega
  have ltn : b86 < H86.size := by omega
  have szn : G.2.2 ≤ b86 := by have q9 := hB.1.2.2.2.2.2.1; have q8 := hB.1.2.2.2.2.2.2; omega
  have hs : H86.size = H0.size + 58 := by omega
  refine lv_dup hx hb dX11_init_89 rfl ?_
  refine th_call (th_runI (As := []) (rest := [.ref b86, .ref a0]) hC mf_X6_init km_X11_57 im_X6_init rfl (c_X6_init_i l G Γ79 H86 hB.1.1 hB.2.1 b86 kn szn ltn nb (by omega)) rfl rfl ⟨Nat.le_of_ble_eq_true rfl, Nat.le_of_ble_eq_true rfl⟩ rfl hl.1 rfl (Nat.le_of_ble_eq_true rfl) dX11_init_90 ⟨Nat.le_of_ble_eq_true rfl, Nat.le_of_ble_eq_true rfl⟩) hB.1.2.1 (fun v90 H90 locs hp hz hS => ?_)
  obtain ⟨rfl, Γ90, hy, hi, hzn⟩ := hp
  have hB := th_NR_c hB hy lbn hS
  have hIN := th_IN_c hIN hy hi
  have ho := tc_OBc ho hy (by omega) (by omega)
  have n17xxxxxxxxxxxxxxxxxxxx : ¬ th_MR G Γ90 H90 b17 := fun w => (hy.2.2.2.1 _ w).elim n17xxxxxxxxxxxxxxxxxxx (fun w => absurd w (by have q9 := (of_lt hz1 hs of_b17 (by decide)); omega))
  have k17xxxxxxxxxxxxxxxxxxxx := tc_MAc k17xxxxxxxxxxxxxxxxxxx hy (of_ne of_b17 of_b86 (by decide))
  have n25xxxxxxxxxxxxxxxxxx : ¬ th_MR G Γ90 H90 b25 := fun w => (hy.2.2.2.1 _ w).elim n25xxxxxxxxxxxxxxxxx (fun w => absurd w (by have q9 := (of_lt hz1 hs of_b25 (by decide)); omega))
  have k25xxxxxxxxxxxxxxxxxx := tc_MAc k25xxxxxxxxxxxxxxxxx hy (of_ne of_b25 of_b86 (by decide))
  have hr_b5xxxxxx := (hy.1.2.2 b5 (of_lt hz1 hs of_b5 (by decide)) (of_ne of_b5 of_b86 (by decide))).1.trans hr_b5xxxxx
  have hr_b31xxxxx := (hy.1.2.2 b31 (of_lt hz1 hs of_b31 (by decide)) (of_ne of_b31 of_b86 (by decide))).1.trans hr_b31xxxx
  have hr_b42xxxx := (hy.1.2.2 b42 (of_lt hz1 hs of_b42 (by decide)) (of_ne of_b42 of_b86 (by decide))).1.trans hr_b42xxx
  have hr_b53xxx := (hy.1.2.2 b53 (of_lt hz1 hs of_b53 (by decide)) (of_ne of_b53 of_b86 (by decide))).1.trans hr_b53xx
  have hr_b64xx := (hy.1.2.2 b64 (of_lt hz1 hs of_b64 (by decide)) (of_ne of_b64 of_b86 (by decide))).1.trans hr_b64x
  have hr_b75x := (hy.1.2.2 b75 (of_lt hz1 hs of_b75 (by decide)) (of_ne of_b75 of_b86 (by decide))).1.trans hr_b75
  have hr_b86 := hy.2.2.1
  have hs : H90.size = H0.size + 61 := by omega
  have hN := th_new_c hN hy
  refine W.eq (g2 := F0 m 93 ls [.ref b86, .ref a0]) rfl ?_
  refine tc_putF hC cf_X11 hB.1 ho (j := 8) (by decide) rfl hnm rfl rfl kf_X11_58 dX11_init_93 (fun H93 locs hB1 ho z93 oq93 => ?_)
  have hu := hB.1.2.2.2.2.1
  have hB := th_NR_s hB hB1 hu hB.2.2.1 (by omega) oq93
  have hIN := th_IN_s hIN hu oq93
  have k17xxxxxxxxxxxxxxxxxxxxx := tm_MAo k17xxxxxxxxxxxxxxxxxxxx oq93 (of_n0 of_b17 (by decide))
  have n17xxxxxxxxxxxxxxxxxxxxx : ¬ th_MR G Γ90 H93 b17 := fun w => n17xxxxxxxxxxxxxxxxxxxx (th_MR_s hu oq93 w)
  have k25xxxxxxxxxxxxxxxxxxx := tm_MAo k25xxxxxxxxxxxxxxxxxx oq93 (of_n0 of_b25 (by decide))
  have n25xxxxxxxxxxxxxxxxxxx : ¬ th_MR G Γ90 H93 b25 := fun w => n25xxxxxxxxxxxxxxxxxx (th_MR_s hu oq93 w)
  have hs : H93.size = H0.size + 61 := by omega
  refine lv_aload_n hx hb dX11_init_96 rfl (lv_at hl 0 rfl) ?_
  refine tc_new hC cf_X2 hB.1 kw_247 kw_248 kw_8 (Nat.le_of_ble_eq_true rfl) (Nat.le_of_ble_eq_true rfl) dX11_init_97 (fun b97 H97 eb97 zb97 oq97 hB1 kn => ?_)
  have of_b97 : b97 = a0 + 62 := by omega
  have n970 : ¬ th_MR G Γ90 H93 b97 := fun w => absurd (th_MR_lt hB.2.1 w) (by omega)
  have u97 := kn.1
  have hB := th_NR_s hB hB1 u97 n970 (by omega) oq97
  have hIN := th_IN_s hIN u97 oq97
  have nb : ¬ th_MR G Γ90 H97 b97 := fun w => n970 (th_MR_s u97 oq97 w)
  have ho := tc_OBo ho oq97 (by omega)
  have k17xxxxxxxxxxxxxxxxxxxxxx := tm_MAo k17xxxxxxxxxxxxxxxxxxxxx oq97 (of_ne of_b17 of_b97 (by decide))
  have n17xxxxxxxxxxxxxxxxxxxxxx : ¬ th_MR G Γ90 H97 b17 := fun w => n17xxxxxxxxxxxxxxxxxxxxx (th_MR_s u97 oq97 w)
  have k25xxxxxxxxxxxxxxxxxxxx := tm_MAo k25xxxxxxxxxxxxxxxxxxx oq97 (of_ne of_b25 of_b97 (by decide))
  have n25xxxxxxxxxxxxxxxxxxxx : ¬ th_MR G Γ90 H97 b25 := fun w => n25xxxxxxxxxxxxxxxxxxx (th_MR_s u97 oq97 w)
  have lbn : H0.size ≤ b97 := by omega
  have ltn : b97 < H97.size := by omega
  have szn : G.2.2 ≤ b97 := by have q9 := hB.1.2.2.2.2.2.1; have q8 := hB.1.2.2.2.2.2.2; omega
  have hs : H97.size = H0.size + 62 := by omega
  refine lv_dup hx hb dX11_init_100 rfl ?_
  refine th_call (th_runI (As := []) (rest := [.ref b97, .ref a0]) hC mf_X2_init km_X11_64 im_X2_init rfl (c_X2_init_i l G Γ90 H97 hB.1.1 hB.2.1 b97 kn szn ltn nb (by omega)) rfl rfl ⟨Nat.le_of_ble_eq_true rfl, Nat.le_of_ble_eq_true rfl⟩ rfl hl.1 rfl (Nat.le_of_ble_eq_true rfl) dX11_init_101 ⟨Nat.le_of_ble_eq_true rfl, Nat.le_of_ble_eq_true rfl⟩) hB.1.2.1 (fun v101 H101 locs hp hz hS => ?_)
  obtain ⟨rfl, Γ101, hy, hi, hzn⟩ := hp
  have hB := th_NR_c hB hy lbn hS
  have hIN := th_IN_c hIN hy hi
  have ho := tc_OBc ho hy (by omega) (by omega)
  have n17xxxxxxxxxxxxxxxxxxxxxxx : ¬ th_MR G Γ101 H101 b17 := fun w => (hy.2.2.2.1 _ w).elim n17xxxxxxxxxxxxxxxxxxxxxx (fun w => absurd w (by have q9 := (of_lt hz1 hs of_b17 (by decide)); omega))
  have k17xxxxxxxxxxxxxxxxxxxxxxx := tc_MAc k17xxxxxxxxxxxxxxxxxxxxxx hy (of_ne of_b17 of_b97 (by decide))
  have n25xxxxxxxxxxxxxxxxxxxxx : ¬ th_MR G Γ101 H101 b25 := fun w => (hy.2.2.2.1 _ w).elim n25xxxxxxxxxxxxxxxxxxxx (fun w => absurd w (by have q9 := (of_lt hz1 hs of_b25 (by decide)); omega))
  have k25xxxxxxxxxxxxxxxxxxxxx := tc_MAc k25xxxxxxxxxxxxxxxxxxxx hy (of_ne of_b25 of_b97 (by decide))
  have hr_b5xxxxxxx := (hy.1.2.2 b5 (of_lt hz1 hs of_b5 (by decide)) (of_ne of_b5 of_b97 (by decide))).1.trans hr_b5xxxxxx
  have hr_b31xxxxxx := (hy.1.2.2 b31 (of_lt hz1 hs of_b31 (by decide)) (of_ne of_b31 of_b97 (by decide))).1.trans hr_b31xxxxx
  have hr_b42xxxxx := (hy.1.2.2 b42 (of_lt hz1 hs of_b42 (by decide)) (of_ne of_b42 of_b97 (by decide))).1.trans hr_b42xxxx
  have hr_b53xxxx := (hy.1.2.2 b53 (of_lt hz1 hs of_b53 (by decide)) (of_ne of_b53 of_b97 (by decide))).1.trans hr_b53xxx
  have hr_b64xxx := (hy.1.2.2 b64 (of_lt hz1 hs of_b64 (by decide)) (of_ne of_b64 of_b97 (by decide))).1.trans hr_b64xx
  have hr_b75xx := (hy.1.2.2 b75 (of_lt hz1 hs of_b75 (by decide)) (of_ne of_b75 of_b97 (by decide))).1.trans hr_b75x
  have hr_b86x := (hy.1.2.2 b86 (of_lt hz1 hs of_b86 (by decide)) (of_ne of_b86 of_b97 (by decide))).1.trans hr_b86
  have hr_b97 := hy.2.2.1
  have hs : H101.size = H0.size + 66 := by omega
  have hN := th_new_c hN hy
  refine W.eq (g2 := F0 m 104 ls [.ref b97, .ref a0]) rfl ?_
  refine tc_putF hC cf_X11 hB.1 ho (j := 9) (by decide) rfl hnm rfl rfl kf_X11_65 dX11_init_104 (fun H104 locs hB1 ho z104 oq104 => ?_)
  have hu := hB.1.2.2.2.2.1
  have hB := th_NR_s hB hB1 hu hB.2.2.1 (by omega) oq104
  have hIN := th_IN_s hIN hu oq104
  have k17xxxxxxxxxxxxxxxxxxxxxxxx := tm_MAo k17xxxxxxxxxxxxxxxxxxxxxxx oq104 (of_n0 of_b17 (by decide))
  have n17xxxxxxxxxxxxxxxxxxxxxxxx : ¬ th_MR G Γ101 H104 b17 := fun w => n17xxxxxxxxxxxxxxxxxxxxxxx (th_MR_s hu oq104 w)
  have k25xxxxxxxxxxxxxxxxxxxxxx := tm_MAo k25xxxxxxxxxxxxxxxxxxxxx oq104 (of_n0 of_b25 (by decide))
  have n25xxxxxxxxxxxxxxxxxxxxxx : ¬ th_MR G Γ101 H104 b25 := fun w => n25xxxxxxxxxxxxxxxxxxxxx (th_MR_s hu oq104 w)
  have hs : H104.size = H0.size + 66 := by omega
  refine lv_aload_n hx hb dX11_init_107 rfl (lv_at hl 0 rfl) ?_
  refine tc_new hC cf_X4 hB.1 kw_259 kw_260 kw_9 (Nat.le_of_ble_eq_true rfl) (Nat.le_of_ble_eq_true rfl) dX11_init_108 (fun b108 H108 eb108 zb108 oq108 hB1 kn => ?_)
  have of_b108 : b108 = a0 + 67 := by omega
  have n1080 : ¬ th_MR G Γ101 H104 b108 := fun w => absurd (th_MR_lt hB.2.1 w) (by omega)
  have u108 := kn.1
  have hB := th_NR_s hB hB1 u108 n1080 (by omega) oq108
  have hIN := th_IN_s hIN u108 oq108
  have nb : ¬ th_MR G Γ101 H108 b108 := fun w => n1080 (th_MR_s u108 oq108 w)
  have ho := tc_OBo ho oq108 (by omega)
  have k17xxxxxxxxxxxxxxxxxxxxxxxxx := tm_MAo k17xxxxxxxxxxxxxxxxxxxxxxxx oq108 (of_ne of_b17 of_b108 (by decide))
  have n17xxxxxxxxxxxxxxxxxxxxxxxxx : ¬ th_MR G Γ101 H108 b17 := fun w => n17xxxxxxxxxxxxxxxxxxxxxxxx (th_MR_s u108 oq108 w)
  have k25xxxxxxxxxxxxxxxxxxxxxxx := tm_MAo k25xxxxxxxxxxxxxxxxxxxxxx oq108 (of_ne of_b25 of_b108 (by decide))
  have n25xxxxxxxxxxxxxxxxxxxxxxx : ¬ th_MR G Γ101 H108 b25 := fun w => n25xxxxxxxxxxxxxxxxxxxxxx (th_MR_s u108 oq108 w)
  have lbn : H0.size ≤ b108 := by omega
  have ltn : b108 < H108.size := by omega
  have szn : G.2.2 ≤ b108 := by have q9 := hB.1.2.2.2.2.2.1; have q8 := hB.1.2.2.2.2.2.2; omega
  have hs : H108.size = H0.size + 67 := by omega
  refine lv_dup hx hb dX11_init_111 rfl ?_
  refine th_call (th_runI (As := []) (rest := [.ref b108, .ref a0]) hC mf_X4_init km_X11_71 im_X4_init rfl (c_X4_init_i l G Γ101 H108 hB.1.1 hB.2.1 b108 kn szn ltn nb (by omega)) rfl rfl ⟨Nat.le_of_ble_eq_true rfl, Nat.le_of_ble_eq_true rfl⟩ rfl hl.1 rfl (Nat.le_of_ble_eq_true rfl) dX11_init_112 ⟨Nat.le_of_ble_eq_true rfl, Nat.le_of_ble_eq_true rfl⟩) hB.1.2.1 (fun v112 H112 locs hp hz hS => ?_)
  obtain ⟨rfl, Γ112, hy, hi, hzn⟩ := hp
  have hB := th_NR_c hB hy lbn hS
  have hIN := th_IN_c hIN hy hi
  have ho := tc_OBc ho hy (by omega) (by omega)
  have n17xxxxxxxxxxxxxxxxxxxxxxxxxx : ¬ th_MR G Γ112 H112 b17 := fun w => (hy.2.2.2.1 _ w).elim n17xxxxxxxxxxxxxxxxxxxxxxxxx (fun w => absurd w (by have q9 := (of_lt hz1 hs of_b17 (by decide)); omega))
  have k17xxxxxxxxxxxxxxxxxxxxxxxxxx := tc_MAc k17xxxxxxxxxxxxxxxxxxxxxxxxx hy (of_ne of_b17 of_b108 (by decide))
  have n25xxxxxxxxxxxxxxxxxxxxxxxx : ¬ th_MR G Γ112 H112 b25 := fun w => (hy.2.2.2.1 _ w).elim n25xxxxxxxxxxxxxxxxxxxxxxx (fun w => absurd w (by have q9 := (of_lt hz1 hs of_b25 (by decide)); omega))
  have k25xxxxxxxxxxxxxxxxxxxxxxxx := tc_MAc k25xxxxxxxxxxxxxxxxxxxxxxx hy (of_ne of_b25 of_b108 (by decide))
  have hr_b5xxxxxxxx := (hy.1.2.2 b5 (of_lt hz1 hs of_b5 (by decide)) (of_ne of_b5 of_b108 (by decide))).1.trans hr_b5xxxxxxx
  have hr_b31xxxxxxx := (hy.1.2.2 b31 (of_lt hz1 hs of_b31 (by decide)) (of_ne of_b31 of_b108 (by decide))).1.trans hr_b31xxxxxx
  have hr_b42xxxxxx := (hy.1.2.2 b42 (of_lt hz1 hs of_b42 (by decide)) (of_ne of_b42 of_b108 (by decide))).1.trans hr_b42xxxxx
  have hr_b53xxxxx := (hy.1.2.2 b53 (of_lt hz1 hs of_b53 (by decide)) (of_ne of_b53 of_b108 (by decide))).1.trans hr_b53xxxx
  have hr_b64xxxx := (hy.1.2.2 b64 (of_lt hz1 hs of_b64 (by decide)) (of_ne of_b64 of_b108 (by decide))).1.trans hr_b64xxx
  have hr_b75xxx := (hy.1.2.2 b75 (of_lt hz1 hs of_b75 (by decide)) (of_ne of_b75 of_b108 (by decide))).1.trans hr_b75xx
  have hr_b86xx := (hy.1.2.2 b86 (of_lt hz1 hs of_b86 (by decide)) (of_ne of_b86 of_b108 (by decide))).1.trans hr_b86x
  have hr_b97x := (hy.1.2.2 b97 (of_lt hz1 hs of_b97 (by decide)) (of_ne of_b97 of_b108 (by decide))).1.trans hr_b97
  have hr_b108 := hy.2.2.1
  have hs : H112.size = H0.size + 77 := by omega
  have hN := th_new_c hN hy
  refine W.eq (g2 := F0 m 115 ls [.ref b108, .ref a0]) rfl ?_
  refine tc_putF hC cf_X11 hB.1 ho (j := 10) (by decide) rfl hnm rfl rfl kf_X11_72 dX11_init_115 (fun H115 locs hB1 ho z115 oq115 => ?_)
  have hu := hB.1.2.2.2.2.1
  have hB := th_NR_s hB hB1 hu hB.2.2.1 (by omega) oq115
  have hIN := th_IN_s hIN hu oq115
  have k17xxxxxxxxxxxxxxxxxxxxxxxxxxx := tm_MAo k17xxxxxxxxxxxxxxxxxxxxxxxxxx oq115 (of_n0 of_b17 (by decide))
  have n17xxxxxxxxxxxxxxxxxxxxxxxxxxx : ¬ th_MR G Γ112 H115 b17 := fun w => n17xxxxxxxxxxxxxxxxxxxxxxxxxx (th_MR_s hu oq115 w)
  have k25xxxxxxxxxxxxxxxxxxxxxxxxx := tm_MAo k25xxxxxxxxxxxxxxxxxxxxxxxx oq115 (of_n0 of_b25 (by decide))
  have n25xxxxxxxxxxxxxxxxxxxxxxxxx : ¬ th_MR G Γ112 H115 b25 := fun w => n25xxxxxxxxxxxxxxxxxxxxxxxx (th_MR_s hu oq115 w)
  have hs : H115.size = H0.size + 77 := by omega
  refine lv_aload_n hx hb dX11_init_118 rfl (lv_at hl 0 rfl) ?_
  refine tc_new hC cf_X7 hB.1 kw_284 kw_285 kw_10 (Nat.le_of_ble_eq_true rfl) (Nat.le_of_ble_eq_true rfl) dX11_init_119 (fun b119 H119 eb119 zb119 oq119 hB1 kn => ?_)
  have of_b119 : b119 = a0 + 78 := by omega
  have n1190 : ¬ th_MR G Γ112 H115 b119 := fun w => absurd (th_MR_lt hB.2.1 w) (by omega)
  have u119 := kn.1
  have hB := th_NR_s hB hB1 u119 n1190 (by omega) oq119
  have hIN := th_IN_s hIN u119 oq119
  have nb : ¬ th_MR G Γ112 H119 b119 := fun w => n1190 (th_MR_s u119 oq119 w)
  have ho := tc_OBo ho oq119 (by omega)
  have k17xxxxxxxxxxxxxxxxxxxxxxxxxxxx := tm_MAo k17xxxxxxxxxxxxxxxxxxxxxxxxxxx oq119 (of_ne of_b17 of_b119 (by decide))
  have n17xxxxxxxxxxxxxxxxxxxxxxxxxxxx : ¬ th_MR G Γ112 H119 b17 := fun w => n17xxxxxxxxxxxxxxxxxxxxxxxxxxx (th_MR_s u119 oq119 w)
  have k25xxxxxxxxxxxxxxxxxxxxxxxxxx := tm_MAo k25xxxxxxxxxxxxxxxxxxxxxxxxx oq119 (of_ne of_b25 of_b119 (by decide))
  have n25xxxxxxxxxxxxxxxxxxxxxxxxxx : ¬ th_MR G Γ112 H119 b25 := fun w => n25xxxxxxxxxxxxxxxxxxxxxxxxx (th_MR_s u119 oq119 w)
  have lbn : H0.size ≤ b119 := by omega
  have ltn : b119 < H119.size := by omega
  have szn : G.2.2 ≤ b119 := by have q9 := hB.1.2.2.2.2.2.1; have q8 := hB.1.2.2.2.2.2.2; omega
  have hs : H119.size = H0.size + 78 := by omega
  refine lv_dup hx hb dX11_init_122 rfl ?_
  have hnoc : ∀ a o : Nat, Γ112 a ≠ (12, o) := fun a o w => by
    by_cases q9 : a = a0 ∨ H0.size ≤ a
    · exact absurd (hN a 12 o w q9 rfl) (by decide)
    · exact hno a o ((hB.1.2.2.2.1 a (by omega) (by omega)).symm.trans w)
  refine th_call (th_runI (As := []) (rest := [.ref b119, .ref a0]) hC mf_X7_init km_X11_78 im_X7_init rfl (c_X7_init_i l G Γ112 H119 hB.1.1 hB.2.1 b119 kn szn ltn nb (by omega) hnoc) rfl rfl ⟨Nat.le_of_ble_eq_true rfl, Nat.le_of_ble_eq_true rfl⟩ rfl hl.1 rfl (Nat.le_of_ble_eq_true rfl) dX11_init_123 ⟨Nat.le_of_ble_eq_true rfl, Nat.le_of_ble_eq_true rfl⟩) hB.1.2.1 (fun v123 H123 locs hp hz hS => ?_)
  obtain ⟨rfl, Γ123, hy, hi, hzn⟩ := hp
  have hB := th_NR_c hB hy lbn hS
  have hIN := th_IN_c hIN hy hi
  have ho := tc_OBc ho hy (by omega) (by omega)
  have n17xxxxxxxxxxxxxxxxxxxxxxxxxxxxx : ¬ th_MR G Γ123 H123 b17 := fun w => (hy.2.2.2.1 _ w).elim n17xxxxxxxxxxxxxxxxxxxxxxxxxxxx (fun w => absurd w (by have q9 := (of_lt hz1 hs of_b17 (by decide)); omega))
  have k17xxxxxxxxxxxxxxxxxxxxxxxxxxxxx := tc_MAc k17xxxxxxxxxxxxxxxxxxxxxxxxxxxx hy (of_ne of_b17 of_b119 (by decide))
  have n25xxxxxxxxxxxxxxxxxxxxxxxxxxx : ¬ th_MR G Γ123 H123 b25 := fun w => (hy.2.2.2.1 _ w).elim n25xxxxxxxxxxxxxxxxxxxxxxxxxx (fun w => absurd w (by have q9 := (of_lt hz1 hs of_b25 (by decide)); omega))
  have k25xxxxxxxxxxxxxxxxxxxxxxxxxxx := tc_MAc k25xxxxxxxxxxxxxxxxxxxxxxxxxx hy (of_ne of_b25 of_b119 (by decide))
  have hr_b5xxxxxxxxx := (hy.1.2.2 b5 (of_lt hz1 hs of_b5 (by decide)) (of_ne of_b5 of_b119 (by decide))).1.trans hr_b5xxxxxxxx
  have hr_b31xxxxxxxx := (hy.1.2.2 b31 (of_lt hz1 hs of_b31 (by decide)) (of_ne of_b31 of_b119 (by decide))).1.trans hr_b31xxxxxxx
  have hr_b42xxxxxxx := (hy.1.2.2 b42 (of_lt hz1 hs of_b42 (by decide)) (of_ne of_b42 of_b119 (by decide))).1.trans hr_b42xxxxxx
  have hr_b53xxxxxx := (hy.1.2.2 b53 (of_lt hz1 hs of_b53 (by decide)) (of_ne of_b53 of_b119 (by decide))).1.trans hr_b53xxxxx
  have hr_b64xxxxx := (hy.1.2.2 b64 (of_lt hz1 hs of_b64 (by decide)) (of_ne of_b64 of_b119 (by decide))).1.trans hr_b64xxxx
  have hr_b75xxxx := (hy.1.2.2 b75 (of_lt hz1 hs of_b75 (by decide)) (of_ne of_b75 of_b119 (by decide))).1.trans hr_b75xxx
  have hr_b86xxx := (hy.1.2.2 b86 (of_lt hz1 hs of_b86 (by decide)) (of_ne of_b86 of_b119 (by decide))).1.trans hr_b86xx
  have hr_b97xx := (hy.1.2.2 b97 (of_lt hz1 hs of_b97 (by decide)) (of_ne of_b97 of_b119 (by decide))).1.trans hr_b97x
  have hr_b108x := (hy.1.2.2 b108 (of_lt hz1 hs of_b108 (by decide)) (of_ne of_b108 of_b119 (by decide))).1.trans hr_b108
  have hr_b119 := hy.2.2.1
  have hs : H123.size = H0.size + 87 := by omega
  have hN := th_new_c hN hy
  refine W.eq (g2 := F0 m 126 ls [.ref b119, .ref a0]) rfl ?_
  refine tc_putF hC cf_X11 hB.1 ho (j := 11) (by decide) rfl hnm rfl rfl kf_X11_79 dX11_init_126 (fun H126 locs hB1 ho z126 oq126 => ?_)
  have hu := hB.1.2.2.2.2.1
  have hB := th_NR_s hB hB1 hu hB.2.2.1 (by omega) oq126
  have hIN := th_IN_s hIN hu oq126
  have k17xxxxxxxxxxxxxxxxxxxxxxxxxxxxxx := tm_MAo k17xxxxxxxxxxxxxxxxxxxxxxxxxxxxx oq126 (of_n0 of_b17 (by decide))
  have n17xxxxxxxxxxxxxxxxxxxxxxxxxxxxxx : ¬ th_MR G Γ123 H126 b17 := fun w => n17xxxxxxxxxxxxxxxxxxxxxxxxxxxxx (th_MR_s hu oq126 w)
  have k25xxxxxxxxxxxxxxxxxxxxxxxxxxxx := tm_MAo k25xxxxxxxxxxxxxxxxxxxxxxxxxxx oq126 (of_n0 of_b25 (by decide))
  have n25xxxxxxxxxxxxxxxxxxxxxxxxxxxx : ¬ th_MR G Γ123 H126 b25 := fun w => n25xxxxxxxxxxxxxxxxxxxxxxxxxxx (th_MR_s hu oq126 w)
  have hs : H126.size = H0.size + 87 := by omega
  refine lv_aload_n hx hb dX11_init_129 rfl (lv_at hl 0 rfl) ?_
  refine tc_new hC cf_X0 hB.1 kw_367 kw_368 kw_13 (Nat.le_of_ble_eq_true rfl) (Nat.le_of_ble_eq_true rfl) dX11_init_130 (fun b130 H130 eb130 zb130 oq130 hB1 kn => ?_)
  have of_b130 : b130 = a0 + 88 := by omega
  have n1300 : ¬ th_MR G Γ123 H126 b130 := fun w => absurd (th_MR_lt hB.2.1 w) (by omega)
  have u130 := kn.1
  have hB := th_NR_s hB hB1 u130 n1300 (by omega) oq130
  have hIN := th_IN_s hIN u130 oq130
  have nb : ¬ th_MR G Γ123 H130 b130 := fun w => n1300 (th_MR_s u130 oq130 w)
  have ho := tc_OBo ho oq130 (by omega)
  have k17xxxxxxxxxxxxxxxxxxxxxxxxxxxxxxx := tm_MAo k17xxxxxxxxxxxxxxxxxxxxxxxxxxxxxx oq130 (of_ne of_b17 of_b130 (by decide))
  have n17xxxxxxxxxxxxxxxxxxxxxxxxxxxxxxx : ¬ th_MR G Γ123 H130 b17 := fun w => n17xxxxxxxxxxxxxxxxxxxxxxxxxxxxxx (th_MR_s u130 oq130 w)
  have k25xxxxxxxxxxxxxxxxxxxxxxxxxxxxx := tm_MAo k25xxxxxxxxxxxxxxxxxxxxxxxxxxxx oq130 (of_ne of_b25 of_b130 (by decide))
  have n25xxxxxxxxxxxxxxxxxxxxxxxxxxxxx : ¬ th_MR G Γ123 H130 b25 := fun w => n25xxxxxxxxxxxxxxxxxxxxxxxxxxxx (th_MR_s u130 oq130 w)
  have lbn : H0.size ≤ b130 := by omega
  have ltn : b130 < H130.size := by omega
  have szn : G.2.2 ≤ b130 := by have q9 := hB.1.2.2.2.2.2.1; have q8 := hB.1.2.2.2.2.2.2; omega
  have hs : H130.size = H0.size + 88 := by omega
  refine lv_dup hx hb dX11_init_133 rfl ?_
  refine th_call (th_runI (As := []) (rest := [.ref b130, .ref a0]) hC mf_X0_init km_X11_85 im_X0_init rfl (c_X0_init_i l G Γ123 H130 hB.1.1 hB.2.1 b130 kn szn ltn nb (by omega)) rfl rfl ⟨Nat.le_of_ble_eq_true rfl, Nat.le_of_ble_eq_true rfl⟩ rfl hl.1 rfl (Nat.le_of_ble_eq_true rfl) dX11_init_134 ⟨Nat.le_of_ble_eq_true rfl, Nat.le_of_ble_eq_true rfl⟩) hB.1.2.1 (fun v134 H134 locs hp hz hS => ?_)
  obtain ⟨rfl, Γ134, hy, hi, hzn⟩ := hp
  have hB := th_NR_c hB hy lbn hS
  have hIN := th_IN_c hIN hy hi
  have ho := tc_OBc ho hy (by omega) (by omega)
  have n17xxxxxxxxxxxxxxxxxxxxxxxxxxxxxxxx : ¬ th_MR G Γ134 H134 b17 := fun w => (hy.2.2.2.1 _ w).elim n17xxxxxxxxxxxxxxxxxxxxxxxxxxxxxxx (fun w => absurd w (by have q9 := (of_lt hz1 hs of_b17 (by decide)); omega))
  have k17xxxxxxxxxxxxxxxxxxxxxxxxxxxxxxxx := tc_MAc k17xxxxxxxxxxxxxxxxxxxxxxxxxxxxxxx hy (of_ne of_b17 of_b130 (by decide))
  have n25xxxxxxxxxxxxxxxxxxxxxxxxxxxxxx : ¬ th_MR G Γ134 H134 b25 := fun w => (hy.2.2.2.1 _ w).elim n25xxxxxxxxxxxxxxxxxxxxxxxxxxxxx (fun w => absurd w (by have q9 := (of_lt hz1 hs of_b25 (by decide)); omega))
  have k25xxxxxxxxxxxxxxxxxxxxxxxxxxxxxx := tc_MAc k25xxxxxxxxxxxxxxxxxxxxxxxxxxxxx hy (of_ne of_b25 of_b130 (by decide))
  have hr_b5xxxxxxxxxx := (hy.1.2.2 b5 (of_lt hz1 hs of_b5 (by decide)) (of_ne of_b5 of_b130 (by decide))).1.trans hr_b5xxxxxxxxx
  have hr_b31xxxxxxxxx := (hy.1.2.2 b31 (of_lt hz1 hs of_b31 (by decide)) (of_ne of_b31 of_b130 (by decide))).1.trans hr_b31xxxxxxxx
  have hr_b42xxxxxxxx := (hy.1.2.2 b42 (of_lt hz1 hs of_b42 (by decide)) (of_ne of_b42 of_b130 (by decide))).1.trans hr_b42xxxxxxx
  have hr_b53xxxxxxx := (hy.1.2.2 b53 (of_lt hz1 hs of_b53 (by decide)) (of_ne of_b53 of_b130 (by decide))).1.trans hr_b53xxxxxx
  have hr_b64xxxxxx := (hy.1.2.2 b64 (of_lt hz1 hs of_b64 (by decide)) (of_ne of_b64 of_b130 (by decide))).1.trans hr_b64xxxxx
  have hr_b75xxxxx := (hy.1.2.2 b75 (of_lt hz1 hs of_b75 (by decide)) (of_ne of_b75 of_b130 (by decide))).1.trans hr_b75xxxx
  have hr_b86xxxx := (hy.1.2.2 b86 (of_lt hz1 hs of_b86 (by decide)) (of_ne of_b86 of_b130 (by decide))).1.trans hr_b86xxx
  have hr_b97xxx := (hy.1.2.2 b97 (of_lt hz1 hs of_b97 (by decide)) (of_ne of_b97 of_b130 (by decide))).1.trans hr_b97xx
  have hr_b108xx := (hy.1.2.2 b108 (of_lt hz1 hs of_b108 (by decide)) (of_ne of_b108 of_b130 (by decide))).1.trans hr_b108x
  have hr_b119x := (hy.1.2.2 b119 (of_lt hz1 hs of_b119 (by decide)) (of_ne of_b119 of_b130 (by decide))).1.trans hr_b119
  have hr_b130 := hy.2.2.1
  have hs : H134.size = H0.size + 89 := by omega
  have hN := th_new_c hN hy
  refine W.eq (g2 := F0 m 137 ls [.ref b130, .ref a0]) rfl ?_
  refine tc_putF hC cf_X11 hB.1 ho (j := 12) (by decide) rfl hnm rfl rfl kf_X11_86 dX11_init_137 (fun H137 locs hB1 ho z137 oq137 => ?_)
  have hu := hB.1.2.2.2.2.1
  have hB := th_NR_s hB hB1 hu hB.2.2.1 (by omega) oq137
  have hIN := th_IN_s hIN hu oq137
  have k17xxxxxxxxxxxxxxxxxxxxxxxxxxxxxxxxx := tm_MAo k17xxxxxxxxxxxxxxxxxxxxxxxxxxxxxxxx oq137 (of_n0 of_b17 (by decide))
  have n17xxxxxxxxxxxxxxxxxxxxxxxxxxxxxxxxx : ¬ th_MR G Γ134 H137 b17 := fun w => n17xxxxxxxxxxxxxxxxxxxxxxxxxxxxxxxx (th_MR_s hu oq137 w)
  have k25xxxxxxxxxxxxxxxxxxxxxxxxxxxxxxx := tm_MAo k25xxxxxxxxxxxxxxxxxxxxxxxxxxxxxx oq137 (of_n0 of_b25 (by decide))
  have n25xxxxxxxxxxxxxxxxxxxxxxxxxxxxxxx : ¬ th_MR G Γ134 H137 b25 := fun w => n25xxxxxxxxxxxxxxxxxxxxxxxxxxxxxx (th_MR_s hu oq137 w)
  have hs : H137.size = H0.size + 89 := by omega
  refine lv_aload_n hx hb dX11_init_140 rfl (lv_at hl 0 rfl) ?_
  refine lv_iconst (v := 5) hx hb dX11_init_141 (by decide) ?_
  refine tc_newa (ty := .int) (t := 0) hC hB.1 rfl rfl rfl kw_104 (N := 5) tk_5 (by decide) (Nat.le_of_ble_eq_true rfl) (Nat.le_of_ble_eq_true rfl) dX11_init_142 (fun b142 H142 eb142 zb142 oq142 hB1 k142 => ?_)
  have u142 := k142.2.1
  have of_b142 : b142 = a0 + 90 := by omega
  have n1420 : ¬ th_MR G Γ134 H137 b142 := fun w => absurd (th_MR_lt hB.2.1 w) (by omega)
  have hB := th_NR_s hB hB1 u142 n1420 (by omega) oq142
  have hIN := th_IN_s hIN u142 oq142
  have n142 : ¬ th_MR G Γ134 H142 b142 := fun w => n1420 (th_MR_s u142 oq142 w)
  have lb142 : H0.size ≤ b142 := by omega
  have ho := tc_OBo ho oq142 (by omega)
  have k17xxxxxxxxxxxxxxxxxxxxxxxxxxxxxxxxxx := tm_MAo k17xxxxxxxxxxxxxxxxxxxxxxxxxxxxxxxxx oq142 (of_ne of_b17 of_b142 (by decide))
  have n17xxxxxxxxxxxxxxxxxxxxxxxxxxxxxxxxxx : ¬ th_MR G Γ134 H142 b17 := fun w => n17xxxxxxxxxxxxxxxxxxxxxxxxxxxxxxxxx (th_MR_s u142 oq142 w)
  have k25xxxxxxxxxxxxxxxxxxxxxxxxxxxxxxxx := tm_MAo k25xxxxxxxxxxxxxxxxxxxxxxxxxxxxxxx oq142 (of_ne of_b25 of_b142 (by decide))
  have n25xxxxxxxxxxxxxxxxxxxxxxxxxxxxxxxx : ¬ th_MR G Γ134 H142 b25 := fun w => n25xxxxxxxxxxxxxxxxxxxxxxxxxxxxxxx (th_MR_s u142 oq142 w)
  have hs : H142.size = H0.size + 90 := by omega
  refine tc_putF hC cf_X11 hB.1 ho (j := 13) (by decide) rfl hnm rfl rfl kf_X11_90 dX11_init_144 (fun H144 locs hB1 ho z144 oq144 => ?_)
  have hu := hB.1.2.2.2.2.1
  have hB := th_NR_s hB hB1 hu hB.2.2.1 (by omega) oq144
  have hIN := th_IN_s hIN hu oq144
  have k17xxxxxxxxxxxxxxxxxxxxxxxxxxxxxxxxxxx := tm_MAo k17xxxxxxxxxxxxxxxxxxxxxxxxxxxxxxxxxx oq144 (of_n0 of_b17 (by decide))
  have n17xxxxxxxxxxxxxxxxxxxxxxxxxxxxxxxxxxx : ¬ th_MR G Γ134 H144 b17 := fun w => n17xxxxxxxxxxxxxxxxxxxxxxxxxxxxxxxxxx (th_MR_s hu oq144 w)
  have k25xxxxxxxxxxxxxxxxxxxxxxxxxxxxxxxxx := tm_MAo k25xxxxxxxxxxxxxxxxxxxxxxxxxxxxxxxx oq144 (of_n0 of_b25 (by decide))
  have n25xxxxxxxxxxxxxxxxxxxxxxxxxxxxxxxxx : ¬ th_MR G Γ134 H144 b25 := fun w => n25xxxxxxxxxxxxxxxxxxxxxxxxxxxxxxxx (th_MR_s hu oq144 w)
  have k142x := tm_MAo k142 oq144 (of_n0 of_b142 (by decide))
  have n142x : ¬ th_MR G Γ134 H144 b142 := fun w => n142 (th_MR_s hu oq144 w)
  have hs : H144.size = H0.size + 90 := by omega
  refine lv_aload_n hx hb dX11_init_147 rfl (lv_at hl 0 rfl) ?_
  refine lv_iconst (v := 0) hx hb dX11_init_148 (by decide) ?_
  refine tc_put hC cf_X11 hB.1 ho (j := 14) (by decide) rfl rfl rfl kf_X11_94 dX11_init_149 (fun H149 locs hB1 ho z149 oq149 => ?_)
  have hu := hB.1.2.2.2.2.1
  have hB := th_NR_s hB hB1 hu hB.2.2.1 (by omega) oq149
  have hIN := th_IN_s hIN hu oq149
  have k17xxxxxxxxxxxxxxxxxxxxxxxxxxxxxxxxxxxx := tm_MAo k17xxxxxxxxxxxxxxxxxxxxxxxxxxxxxxxxxxx oq149 (of_n0 of_b17 (by decide))
  have n17xxxxxxxxxxxxxxxxxxxxxxxxxxxxxxxxxxxx : ¬ th_MR G Γ134 H149 b17 := fun w => n17xxxxxxxxxxxxxxxxxxxxxxxxxxxxxxxxxxx (th_MR_s hu oq149 w)
  have k25xxxxxxxxxxxxxxxxxxxxxxxxxxxxxxxxxx := tm_MAo k25xxxxxxxxxxxxxxxxxxxxxxxxxxxxxxxxx oq149 (of_n0 of_b25 (by decide))
  have n25xxxxxxxxxxxxxxxxxxxxxxxxxxxxxxxxxx : ¬ th_MR G Γ134 H149 b25 := fun w => n25xxxxxxxxxxxxxxxxxxxxxxxxxxxxxxxxx (th_MR_s hu oq149 w)
  have k142xx := tm_MAo k142x oq149 (of_n0 of_b142 (by decide))
  have n142xx : ¬ th_MR G Γ134 H149 b142 := fun w => n142x (th_MR_s hu oq149 w)
  have hs : H149.size = H0.size + 90 := by omega
  refine lv_aload_n hx hb dX11_init_152 rfl (lv_at hl 0 rfl) ?_
  refine lv_iconst (v := (-1)) hx hb dX11_init_153 (by decide) ?_
  refine tc_put hC cf_X11 hB.1 ho (j := 15) (by decide) rfl rfl rfl kf_X11_98 dX11_init_154 (fun H154 locs hB1 ho z154 oq154 => ?_)
  have hu := hB.1.2.2.2.2.1
  have hB := th_NR_s hB hB1 hu hB.2.2.1 (by omega) oq154
  have hIN := th_IN_s hIN hu oq154
  have k17xxxxxxxxxxxxxxxxxxxxxxxxxxxxxxxxxxxxx := tm_MAo k17xxxxxxxxxxxxxxxxxxxxxxxxxxxxxxxxxxxx oq154 (of_n0 of_b17 (by decide))
  have n17xxxxxxxxxxxxxxxxxxxxxxxxxxxxxxxxxxxxx : ¬ th_MR G Γ134 H154 b17 := fun w => n17xxxxxxxxxxxxxxxxxxxxxxxxxxxxxxxxxxxx (th_MR_s hu oq154 w)
  have k25xxxxxxxxxxxxxxxxxxxxxxxxxxxxxxxxxxx := tm_MAo k25xxxxxxxxxxxxxxxxxxxxxxxxxxxxxxxxxx oq154 (of_n0 of_b25 (by decide))
  have n25xxxxxxxxxxxxxxxxxxxxxxxxxxxxxxxxxxx : ¬ th_MR G Γ134 H154 b25 := fun w => n25xxxxxxxxxxxxxxxxxxxxxxxxxxxxxxxxxx (th_MR_s hu oq154 w)
  have k142xxx := tm_MAo k142xx oq154 (of_n0 of_b142 (by decide))
  have n142xxx : ¬ th_MR G Γ134 H154 b142 := fun w => n142xx (th_MR_s hu oq154 w)
  have hs : H154.size = H0.size + 90 := by omega
  refine lv_aload_n hx hb dX11_init_157 rfl (lv_at hl 0 rfl) ?_
  refine lv_iconst (v := 0) hx hb dX11_init_158 (by decide) ?_
  refine tc_put hC cf_X11 hB.1 ho (j := 16) (by decide) rfl rfl rfl kf_X11_101 dX11_init_159 (fun H159 locs hB1 ho z159 oq159 => ?_)
  have hu := hB.1.2.2.2.2.1
  have hB := th_NR_s hB hB1 hu hB.2.2.1 (by omega) oq159
  have hIN := th_IN_s hIN hu oq159
  have k17xxxxxxxxxxxxxxxxxxxxxxxxxxxxxxxxxxxxxx := tm_MAo k17xxxxxxxxxxxxxxxxxxxxxxxxxxxxxxxxxxxxx oq159 (of_n0 of_b17 (by decide))
  have n17xxxxxxxxxxxxxxxxxxxxxxxxxxxxxxxxxxxxxx : ¬ th_MR G Γ134 H159 b17 := fun w => n17xxxxxxxxxxxxxxxxxxxxxxxxxxxxxxxxxxxxx (th_MR_s hu oq159 w)
  have k25xxxxxxxxxxxxxxxxxxxxxxxxxxxxxxxxxxxx := tm_MAo k25xxxxxxxxxxxxxxxxxxxxxxxxxxxxxxxxxxx oq159 (of_n0 of_b25 (by decide))
  have n25xxxxxxxxxxxxxxxxxxxxxxxxxxxxxxxxxxxx : ¬ th_MR G Γ134 H159 b25 := fun w => n25xxxxxxxxxxxxxxxxxxxxxxxxxxxxxxxxxxx (th_MR_s hu oq159 w)
  have k142xxxx := tm_MAo k142xxx oq159 (of_n0 of_b142 (by decide))
  have n142xxxx : ¬ th_MR G Γ134 H159 b142 := fun w => n142xxx (th_MR_s hu oq159 w)
  have hs : H159.size = H0.size + 90 := by omega
  refine lv_aload_n hx hb dX11_init_162 rfl (lv_at hl 0 rfl) ?_
  refine lv_iconst (v := (-1)) hx hb dX11_init_163 (by decide) ?_
  refine tc_put hC cf_X11 hB.1 ho (j := 17) (by decide) rfl rfl rfl kf_X11_104 dX11_init_164 (fun H164 locs hB1 ho z164 oq164 => ?_)
  have hu := hB.1.2.2.2.2.1
  have hB := th_NR_s hB hB1 hu hB.2.2.1 (by omega) oq164
  have hIN := th_IN_s hIN hu oq164
  have k17xxxxxxxxxxxxxxxxxxxxxxxxxxxxxxxxxxxxxxx := tm_MAo k17xxxxxxxxxxxxxxxxxxxxxxxxxxxxxxxxxxxxxx oq164 (of_n0 of_b17 (by decide))
  have n17xxxxxxxxxxxxxxxxxxxxxxxxxxxxxxxxxxxxxxx : ¬ th_MR G Γ134 H164 b17 := fun w => n17xxxxxxxxxxxxxxxxxxxxxxxxxxxxxxxxxxxxxx (th_MR_s hu oq164 w)
  have k25xxxxxxxxxxxxxxxxxxxxxxxxxxxxxxxxxxxxx := tm_MAo k25xxxxxxxxxxxxxxxxxxxxxxxxxxxxxxxxxxxx oq164 (of_n0 of_b25 (by decide))
  have n25xxxxxxxxxxxxxxxxxxxxxxxxxxxxxxxxxxxxx : ¬ th_MR G Γ134 H164 b25 := fun w => n25xxxxxxxxxxxxxxxxxxxxxxxxxxxxxxxxxxxx (th_MR_s hu oq164 w)
  have k142xxxxx := tm_MAo k142xxxx oq164 (of_n0 of_b142 (by decide))
  have n142xxxxx : ¬ th_MR G Γ134 H164 b142 := fun w => n142xxxx (th_MR_s hu oq164 w)
  have hs : H164.size = H0.size + 90 := by omega
  refine lv_iconst (v := 0) hx hb dX11_init_167 (by decide) ?_
  refine lv_istore_n (lv' := [(1, .int 0), (0, .ref a0)]) hx hb dX11_init_168 rfl hl (by decide) rfl (fun ls hl => ?_)
  refine lv_iload_n hx hb dX11_init_169 rfl (lv_at hl 0 rfl) ?_
  refine lv_iconst (v := 2) hx hb dX11_init_170 (by decide) ?_
  refine tr_icmp_ge (tgt := 193) hx hb dX11_init_171 (by decide) tk_0 tk_2 (fun c => absurd c (by decide)) (fun _ => ?_)
  refine lv_aload_n hx hb dX11_init_174 rfl (lv_at hl 1 rfl) ?_
  refine tc_get hC cf_X11 ho (j := 1) (by decide) rfl kf_X11_16 dX11_init_175 ?_
  refine lv_iload_n hx hb dX11_init_178 rfl (lv_at hl 0 rfl) ?_
  refine tc_new hC cf_X8 hB.1 kw_30 kw_31 kw_2 (Nat.le_of_ble_eq_true rfl) (Nat.le_of_ble_eq_true rfl) dX11_init_179 (fun b179 H179 eb179 zb179 oq179 hB1 kn => ?_)
  have of_b179 : b179 = a0 + 91 := by omega
  have n1790 : ¬ th_MR G Γ134 H164 b179 := fun w => absurd (th_MR_lt hB.2.1 w) (by omega)
  have u179 := kn.1
  have hB := th_NR_s hB hB1 u179 n1790 (by omega) oq179
  have hIN := th_IN_s hIN u179 oq179
  have nb : ¬ th_MR G Γ134 H179 b179 := fun w => n1790 (th_MR_s u179 oq179 w)
  have ho := tc_OBo ho oq179 (by omega)
  have k17xxxxxxxxxxxxxxxxxxxxxxxxxxxxxxxxxxxxxxxx := tm_MAo k17xxxxxxxxxxxxxxxxxxxxxxxxxxxxxxxxxxxxxxx oq179 (of_ne of_b17 of_b179 (by decide))
  have n17xxxxxxxxxxxxxxxxxxxxxxxxxxxxxxxxxxxxxxxx : ¬ th_MR G Γ134 H179 b17 := fun w => n17xxxxxxxxxxxxxxxxxxxxxxxxxxxxxxxxxxxxxxx (th_MR_s u179 oq179 w)
  have k25xxxxxxxxxxxxxxxxxxxxxxxxxxxxxxxxxxxxxx := tm_MAo k25xxxxxxxxxxxxxxxxxxxxxxxxxxxxxxxxxxxxx oq179 (of_ne of_b25 of_b179 (by decide))
  have n25xxxxxxxxxxxxxxxxxxxxxxxxxxxxxxxxxxxxxx : ¬ th_MR G Γ134 H179 b25 := fun w => n25xxxxxxxxxxxxxxxxxxxxxxxxxxxxxxxxxxxxx (th_MR_s u179 oq179 w)
  have k142xxxxxx := tm_MAo k142xxxxx oq179 (of_ne of_b142 of_b179 (by decide))
  have n142xxxxxx : ¬ th_MR G Γ134 H179 b142 := fun w => n142xxxxx (th_MR_s u179 oq179 w)
  have lbn : H0.size ≤ b179 := by omega
  have ltn : b179 < H179.size := by omega
  have szn : G.2.2 ≤ b179 := by have q9 := hB.1.2.2.2.2.2.1; have q8 := hB.1.2.2.2.2.2.2; omega
  have hs : H179.size = H0.size + 91 := by omega
  refine lv_dup hx hb dX11_init_182 rfl ?_
  refine th_call (th_runI (As := []) (rest := [.ref b179, .int 0, .ref b17]) hC mf_X8_init km_X11_11 im_X8_init rfl (c_X8_init_i l G Γ134 H179 hB.1.1 hB.2.1 b179 kn szn ltn nb (by omega)) rfl rfl ⟨Nat.le_of_ble_eq_true rfl, Nat.le_of_ble_eq_true rfl⟩ rfl hl.1 rfl (Nat.le_of_ble_eq_true rfl) dX11_init_183 ⟨Nat.le_of_ble_eq_true rfl, Nat.le_of_ble_eq_true rfl⟩) hB.1.2.1 (fun v183 H183 locs hp hz hS => ?_)
  obtain ⟨rfl, Γ183, hy, hi, hzn⟩ := hp
  have hB := th_NR_c hB hy lbn hS
  have hIN := th_IN_c hIN hy hi
  have ho := tc_OBc ho hy (by omega) (by omega)
  have n17xxxxxxxxxxxxxxxxxxxxxxxxxxxxxxxxxxxxxxxxx : ¬ th_MR G Γ183 H183 b17 := fun w => (hy.2.2.2.1 _ w).elim n17xxxxxxxxxxxxxxxxxxxxxxxxxxxxxxxxxxxxxxxx (fun w => absurd w (by have q9 := (of_lt hz1 hs of_b17 (by decide)); omega))
  have k17xxxxxxxxxxxxxxxxxxxxxxxxxxxxxxxxxxxxxxxxx := tc_MAc k17xxxxxxxxxxxxxxxxxxxxxxxxxxxxxxxxxxxxxxxx hy (of_ne of_b17 of_b179 (by decide))
  have n25xxxxxxxxxxxxxxxxxxxxxxxxxxxxxxxxxxxxxxx : ¬ th_MR G Γ183 H183 b25 := fun w => (hy.2.2.2.1 _ w).elim n25xxxxxxxxxxxxxxxxxxxxxxxxxxxxxxxxxxxxxx (fun w => absurd w (by have q9 := (of_lt hz1 hs of_b25 (by decide)); omega))
  have k25xxxxxxxxxxxxxxxxxxxxxxxxxxxxxxxxxxxxxxx := tc_MAc k25xxxxxxxxxxxxxxxxxxxxxxxxxxxxxxxxxxxxxx hy (of_ne of_b25 of_b179 (by decide))
  have n142xxxxxxx : ¬ th_MR G Γ183 H183 b142 := fun w => (hy.2.2.2.1 _ w).elim n142xxxxxx (fun w => absurd w (by have q9 := (of_lt hz1 hs of_b142 (by decide)); omega))
  have k142xxxxxxx := tc_MAc k142xxxxxx hy (of_ne of_b142 of_b179 (by decide))
  have hr_b5xxxxxxxxxxx := (hy.1.2.2 b5 (of_lt hz1 hs of_b5 (by decide)) (of_ne of_b5 of_b179 (by decide))).1.trans hr_b5xxxxxxxxxx
  have hr_b31xxxxxxxxxx := (hy.1.2.2 b31 (of_lt hz1 hs of_b31 (by decide)) (of_ne of_b31 of_b179 (by decide))).1.trans hr_b31xxxxxxxxx
  have hr_b42xxxxxxxxx := (hy.1.2.2 b42 (of_lt hz1 hs of_b42 (by decide)) (of_ne of_b42 of_b179 (by decide))).1.trans hr_b42xxxxxxxx
  have hr_b53xxxxxxxx := (hy.1.2.2 b53 (of_lt hz1 hs of_b53 (by decide)) (of_ne of_b53 of_b179 (by decide))).1.trans hr_b53xxxxxxx
  have hr_b64xxxxxxx := (hy.1.2.2 b64 (of_lt hz1 hs of_b64 (by decide)) (of_ne of_b64 of_b179 (by decide))).1.trans hr_b64xxxxxx
  have hr_b75xxxxxx := (hy.1.2.2 b75 (of_lt hz1 hs of_b75 (by decide)) (of_ne of_b75 of_b179 (by decide))).1.trans hr_b75xxxxx
  have hr_b86xxxxx := (hy.1.2.2 b86 (of_lt hz1 hs of_b86 (by decide)) (of_ne of_b86 of_b179 (by decide))).1.trans hr_b86xxxx
  have hr_b97xxxx := (hy.1.2.2 b97 (of_lt hz1 hs of_b97 (by decide)) (of_ne of_b97 of_b179 (by decide))).1.trans hr_b97xxx
  have hr_b108xxx := (hy.1.2.2 b108 (of_lt hz1 hs of_b108 (by decide)) (of_ne of_b108 of_b179 (by decide))).1.trans hr_b108xx
  have hr_b119xx := (hy.1.2.2 b119 (of_lt hz1 hs of_b119 (by decide)) (of_ne of_b119 of_b179 (by decide))).1.trans hr_b119x
  have hr_b130x := (hy.1.2.2 b130 (of_lt hz1 hs of_b130 (by decide)) (of_ne of_b130 of_b179 (by decide))).1.trans hr_b130
  have hr_b179 := hy.2.2.1
  have hs : H183.size = H0.size + 121 := by omega
  have hN := th_new_c hN hy
  refine W.eq (g2 := F0 m 186 ls [.ref b179, .int 0, .ref b17]) rfl ?_
  refine tc_aast (x := 0) hC hB.1 k17xxxxxxxxxxxxxxxxxxxxxxxxxxxxxxxxxxxxxxxxx lb17 rfl hr_b179 ro_32 rfl tk_0 (by decide) (by decide) dX11_init_186 (fun H186 locs hB1 kq z186 oq186 => ?_)
  have hq := k17xxxxxxxxxxxxxxxxxxxxxxxxxxxxxxxxxxxxxxxxx.2.1
  have hB := th_NR_s hB hB1 hq n17xxxxxxxxxxxxxxxxxxxxxxxxxxxxxxxxxxxxxxxxx (by omega) oq186
  have hIN := th_IN_s hIN hq oq186
  have n17xxxxxxxxxxxxxxxxxxxxxxxxxxxxxxxxxxxxxxxxxx : ¬ th_MR G Γ183 H186 b17 := fun w => n17xxxxxxxxxxxxxxxxxxxxxxxxxxxxxxxxxxxxxxxxx (th_MR_s hq oq186 w)
  have ho := tc_OBo ho oq186 (by have q9 := lb17; omega)
  have k25xxxxxxxxxxxxxxxxxxxxxxxxxxxxxxxxxxxxxxxx := tm_MAo k25xxxxxxxxxxxxxxxxxxxxxxxxxxxxxxxxxxxxxxx oq186 (fun e => (of_ne of_b17 of_b25 (by decide)) e.symm)
  have n25xxxxxxxxxxxxxxxxxxxxxxxxxxxxxxxxxxxxxxxx : ¬ th_MR G Γ183 H186 b25 := fun w => n25xxxxxxxxxxxxxxxxxxxxxxxxxxxxxxxxxxxxxxx (th_MR_s hq oq186 w)
  have k142xxxxxxxx := tm_MAo k142xxxxxxx oq186 (fun e => (of_ne of_b17 of_b142 (by decide)) e.symm)
  have n142xxxxxxxx : ¬ th_MR G Γ183 H186 b142 := fun w => n142xxxxxxx (th_MR_s hq oq186 w)
  have kz186 := kq
  have hs : H186.size = H0.size + 121 := by omega
  refine tr_iinc (fun z187_1 => [(1, .int z187_1), (0, .ref a0)]) hx hb dX11_init_187 hl (k := 0) rfl tk_0 tk_1 (by decide) (by decide) (by decide) (fun _ => rfl) (fun z187_1 ls ez187_1 hl => ?_)
  have pz187_1 : z187_1.toInt = 1 := ez187_1
  refine lv_goto (tgt := 169) hx hb dX11_init_190 (by decide) ?_
  refine lv_iload_n hx hb dX11_init_169 rfl (lv_at hl 0 rfl) ?_
  refine lv_iconst (v := 2) hx hb dX11_init_170 (by decide) ?_
  refine tr_icmp_ge (tgt := 193) hx hb dX11_init_171 (by decide) pz187_1 tk_2 (fun c => absurd c (by decide)) (fun _ => ?_)
  refine lv_aload_n hx hb dX11_init_174 rfl (lv_at hl 1 rfl) ?_
  refine tc_get hC cf_X11 ho (j := 1) (by decide) rfl kf_X11_16 dX11_init_175 ?_
  refine lv_iload_n hx hb dX11_init_178 rfl (lv_at hl 0 rfl) ?_
  refine tc_new hC cf_X8 hB.1 kw_30 kw_31 kw_2 (Nat.le_of_ble_eq_true rfl) (Nat.le_of_ble_eq_true rfl) dX11_init_179 (fun b179_1 H179_1 eb179 zb179 oq179 hB1 kn => ?_)
  have of_b179_1 : b179_1 = a0 + 122 := by omega
  have n1790 : ¬ th_MR G Γ183 H186 b179_1 := fun w => absurd (th_MR_lt hB.2.1 w) (by omega)
  have u179 := kn.1
  have hB := th_NR_s hB hB1 u179 n1790 (by omega) oq179
  have hIN := th_IN_s hIN u179 oq179
  have nb : ¬ th_MR G Γ183 H179_1 b179_1 := fun w => n1790 (th_MR_s u179 oq179 w)
  have ho := tc_OBo ho oq179 (by omega)
  have kz186x := tm_MAo kz186 oq179 (of_ne of_b17 of_b179_1 (by decide))
  have n17xxxxxxxxxxxxxxxxxxxxxxxxxxxxxxxxxxxxxxxxxxx : ¬ th_MR G Γ183 H179_1 b17 := fun w => n17xxxxxxxxxxxxxxxxxxxxxxxxxxxxxxxxxxxxxxxxxx (th_MR_s u179 oq179 w)
  have k25xxxxxxxxxxxxxxxxxxxxxxxxxxxxxxxxxxxxxxxxx := tm_MAo k25xxxxxxxxxxxxxxxxxxxxxxxxxxxxxxxxxxxxxxxx oq179 (of_ne of_b25 of_b179_1 (by decide))
  have n25xxxxxxxxxxxxxxxxxxxxxxxxxxxxxxxxxxxxxxxxx : ¬ th_MR G Γ183 H179_1 b25 := fun w => n25xxxxxxxxxxxxxxxxxxxxxxxxxxxxxxxxxxxxxxxx (th_MR_s u179 oq179 w)
  have k142xxxxxxxxx := tm_MAo k142xxxxxxxx oq179 (of_ne of_b142 of_b179_1 (by decide))
  have n142xxxxxxxxx : ¬ th_MR G Γ183 H179_1 b142 := fun w => n142xxxxxxxx (th_MR_s u179 oq179 w)
  have lbn : H0.size ≤ b179_1 := by omega
  have ltn : b179_1 < H179_1.size := by omega
  have szn : G.2.2 ≤ b179_1 := by have q9 := hB.1.2.2.2.2.2.1; have q8 := hB.1.2.2.2.2.2.2; omega
  have hs : H179_1.size = H0.size + 122 := by omega
  refine lv_dup hx hb dX11_init_182 rfl ?_
  refine th_call (th_runI (As := []) (rest := [.ref b179_1, .int z187_1, .ref b17]) hC mf_X8_init km_X11_11 im_X8_init rfl (c_X8_init_i l G Γ183 H179_1 hB.1.1 hB.2.1 b179_1 kn szn ltn nb (by omega)) rfl rfl ⟨Nat.le_of_ble_eq_true rfl, Nat.le_of_ble_eq_true rfl⟩ rfl hl.1 rfl (Nat.le_of_ble_eq_true rfl) dX11_init_183 ⟨Nat.le_of_ble_eq_true rfl, Nat.le_of_ble_eq_true rfl⟩) hB.1.2.1 (fun v183 H183_1 locs hp hz hS => ?_)
  obtain ⟨rfl, Γ183_1, hy, hi, hzn⟩ := hp
  have hB := th_NR_c hB hy lbn hS
  have hIN := th_IN_c hIN hy hi
  have ho := tc_OBc ho hy (by omega) (by omega)
  have n17xxxxxxxxxxxxxxxxxxxxxxxxxxxxxxxxxxxxxxxxxxxx : ¬ th_MR G Γ183_1 H183_1 b17 := fun w => (hy.2.2.2.1 _ w).elim n17xxxxxxxxxxxxxxxxxxxxxxxxxxxxxxxxxxxxxxxxxxx (fun w => absurd w (by have q9 := (of_lt hz1 hs of_b17 (by decide)); omega))
  have kz186xx := tc_MAc kz186x hy (of_ne of_b17 of_b179_1 (by decide))
  have n25xxxxxxxxxxxxxxxxxxxxxxxxxxxxxxxxxxxxxxxxxx : ¬ th_MR G Γ183_1 H183_1 b25 := fun w => (hy.2.2.2.1 _ w).elim n25xxxxxxxxxxxxxxxxxxxxxxxxxxxxxxxxxxxxxxxxx (fun w => absurd w (by have q9 := (of_lt hz1 hs of_b25 (by decide)); omega))
  have k25xxxxxxxxxxxxxxxxxxxxxxxxxxxxxxxxxxxxxxxxxx := tc_MAc k25xxxxxxxxxxxxxxxxxxxxxxxxxxxxxxxxxxxxxxxxx hy (of_ne of_b25 of_b179_1 (by decide))
  have n142xxxxxxxxxx : ¬ th_MR G Γ183_1 H183_1 b142 := fun w => (hy.2.2.2.1 _ w).elim n142xxxxxxxxx (fun w => absurd w (by have q9 := (of_lt hz1 hs of_b142 (by decide)); omega))
  have k142xxxxxxxxxx := tc_MAc k142xxxxxxxxx hy (of_ne of_b142 of_b179_1 (by decide))
  have hr_b5xxxxxxxxxxxx := (hy.1.2.2 b5 (of_lt hz1 hs of_b5 (by decide)) (of_ne of_b5 of_b179_1 (by decide))).1.trans hr_b5xxxxxxxxxxx
  have hr_b31xxxxxxxxxxx := (hy.1.2.2 b31 (of_lt hz1 hs of_b31 (by decide)) (of_ne of_b31 of_b179_1 (by decide))).1.trans hr_b31xxxxxxxxxx
  have hr_b42xxxxxxxxxx := (hy.1.2.2 b42 (of_lt hz1 hs of_b42 (by decide)) (of_ne of_b42 of_b179_1 (by decide))).1.trans hr_b42xxxxxxxxx
  have hr_b53xxxxxxxxx := (hy.1.2.2 b53 (of_lt hz1 hs of_b53 (by decide)) (of_ne of_b53 of_b179_1 (by decide))).1.trans hr_b53xxxxxxxx
  have hr_b64xxxxxxxx := (hy.1.2.2 b64 (of_lt hz1 hs of_b64 (by decide)) (of_ne of_b64 of_b179_1 (by decide))).1.trans hr_b64xxxxxxx
  have hr_b75xxxxxxx := (hy.1.2.2 b75 (of_lt hz1 hs of_b75 (by decide)) (of_ne of_b75 of_b179_1 (by decide))).1.trans hr_b75xxxxxx
  have hr_b86xxxxxx := (hy.1.2.2 b86 (of_lt hz1 hs of_b86 (by decide)) (of_ne of_b86 of_b179_1 (by decide))).1.trans hr_b86xxxxx
  have hr_b97xxxxx := (hy.1.2.2 b97 (of_lt hz1 hs of_b97 (by decide)) (of_ne of_b97 of_b179_1 (by decide))).1.trans hr_b97xxxx
  have hr_b108xxxx := (hy.1.2.2 b108 (of_lt hz1 hs of_b108 (by decide)) (of_ne of_b108 of_b179_1 (by decide))).1.trans hr_b108xxx
  have hr_b119xxx := (hy.1.2.2 b119 (of_lt hz1 hs of_b119 (by decide)) (of_ne of_b119 of_b179_1 (by decide))).1.trans hr_b119xx
  have hr_b130xx := (hy.1.2.2 b130 (of_lt hz1 hs of_b130 (by decide)) (of_ne of_b130 of_b179_1 (by decide))).1.trans hr_b130x
  have hr_b179x := (hy.1.2.2 b179 (of_lt hz1 hs of_b179 (by decide)) (of_ne of_b179 of_b179_1 (by decide))).1.trans hr_b179
  have hr_b179_1 := hy.2.2.1
  have hs : H183_1.size = H0.size + 152 := by omega
  have hN := th_new_c hN hy
  refine W.eq (g2 := F0 m 186 ls [.ref b179_1, .int z187_1, .ref b17]) rfl ?_
  refine tc_aast (x := 1) hC hB.1 kz186xx lb17 rfl hr_b179_1 ro_32 rfl pz187_1 (by decide) (by decide) dX11_init_186 (fun H186_1 locs hB1 kq z186 oq186 => ?_)
  have hq := kz186xx.2.1
  have hB := th_NR_s hB hB1 hq n17xxxxxxxxxxxxxxxxxxxxxxxxxxxxxxxxxxxxxxxxxxxx (by omega) oq186
  have hIN := th_IN_s hIN hq oq186
  have n17xxxxxxxxxxxxxxxxxxxxxxxxxxxxxxxxxxxxxxxxxxxxx : ¬ th_MR G Γ183_1 H186_1 b17 := fun w => n17xxxxxxxxxxxxxxxxxxxxxxxxxxxxxxxxxxxxxxxxxxxx (th_MR_s hq oq186 w)
  have ho := tc_OBo ho oq186 (by have q9 := lb17; omega)
  have k25xxxxxxxxxxxxxxxxxxxxxxxxxxxxxxxxxxxxxxxxxxx := tm_MAo k25xxxxxxxxxxxxxxxxxxxxxxxxxxxxxxxxxxxxxxxxxx oq186 (fun e => (of_ne of_b17 of_b25 (by decide)) e.symm)
  have n25xxxxxxxxxxxxxxxxxxxxxxxxxxxxxxxxxxxxxxxxxxx : ¬ th_MR G Γ183_1 H186_1 b25 := fun w => n25xxxxxxxxxxxxxxxxxxxxxxxxxxxxxxxxxxxxxxxxxx (th_MR_s hq oq186 w)
  have k142xxxxxxxxxxx := tm_MAo k142xxxxxxxxxx oq186 (fun e => (of_ne of_b17 of_b142 (by decide)) e.symm)
  have n142xxxxxxxxxxx : ¬ th_MR G Γ183_1 H186_1 b142 := fun w => n142xxxxxxxxxx (th_MR_s hq oq186 w)
  have kz186_1 := kq
  have hs : H186_1.size = H0.size + 152 := by omega
  refine tr_iinc (fun z187_2 => [(1, .int z187_2), (0, .ref a0)]) hx hb dX11_init_187 hl (k := 0) rfl pz187_1 tk_1 (by decide) (by decide) (by decide) (fun _ => rfl) (fun z187_2 ls ez187_2 hl => ?_)
  have pz187_2 : z187_2.toInt = 2 := ez187_2
  refine lv_goto (tgt := 169) hx hb dX11_init_190 (by decide) ?_
  refine lv_iload_n hx hb dX11_init_169 rfl (lv_at hl 0 rfl) ?_
  refine lv_iconst (v := 2) hx hb dX11_init_170 (by decide) ?_
  refine tr_icmp_ge (tgt := 193) hx hb dX11_init_171 (by decide) pz187_2 tk_2 (fun _ => ?_) (fun c => absurd c (by decide))
  have hI1 := hB.1.1
  have hR1 := hB.2.1
  have hI2 := th_nmA (r := 43) (o := a0) hI1 kz186_1 ro_43 (Nat.le_refl _) (Nat.le_refl _) (fun i hi => by
    match i, hi with
    | 0, _ => exact th_sR hr_b179x
    | 1, _ => exact th_sR hr_b179_1
    | n + 2, h => exact absurd h (by omega))
  have hR1 := th_RC_up hI1 hR1 (x := (43, a0)) kz186_1.2.1 n17xxxxxxxxxxxxxxxxxxxxxxxxxxxxxxxxxxxxxxxxxxxxx hI2 (fun e => absurd (show (43 : Nat) = 3 from e) (by decide)) (fun e => absurd (show (43 : Nat) = 18 ∨ (43 : Nat) = 19 from e) (by decide)) (show (43 : Nat) ≠ 12 by decide)
  have hI1 := hI2
  have hIN := th_IN_up (b := b17) (x := (43, a0)) hIN (ini_q rfl rfl rfl (fun i d hm => by
    rcases List.mem_cons.mp hm with e | hm
    · cases e; exact (th_sl_at kz186_1.2.2 (arrV_read _ _ (by decide))).trans (congrArg Value.ref (show b179 = b17 + 59 by omega))
    rcases List.mem_cons.mp hm with e | hm
    · cases e; exact (th_sl_at kz186_1.2.2 (arrV_read _ _ (by decide))).trans (congrArg Value.ref (show b179_1 = b17 + 90 by omega))
    cases hm))
  have ho := th_OB_up (b := b17) (x := (43, a0)) ho (by have q9 := lb17; omega)
  have k25xxxxxxxxxxxxxxxxxxxxxxxxxxxxxxxxxxxxxxxxxxxu := th_MA_up (b := b17) (x := (43, a0)) k25xxxxxxxxxxxxxxxxxxxxxxxxxxxxxxxxxxxxxxxxxxx (fun e => (of_ne of_b17 of_b25 (by decide)) e.symm)
  have n25xxxxxxxxxxxxxxxxxxxxxxxxxxxxxxxxxxxxxxxxxxxu : ¬ th_MR G (th_up Γ183_1 b17 (43, a0)) H186_1 b25 := fun w => n25xxxxxxxxxxxxxxxxxxxxxxxxxxxxxxxxxxxxxxxxxxx (th_MR_up (show (43 : Nat) ≠ 12 by decide) w)
  have k142xxxxxxxxxxxu := th_MA_up (b := b17) (x := (43, a0)) k142xxxxxxxxxxx (fun e => (of_ne of_b17 of_b142 (by decide)) e.symm)
  have n142xxxxxxxxxxxu : ¬ th_MR G (th_up Γ183_1 b17 (43, a0)) H186_1 b142 := fun w => n142xxxxxxxxxxx (th_MR_up (show (43 : Nat) ≠ 12 by decide) w)
  have hI2 := th_nmA (r := 44) (o := a0) hI1 k25xxxxxxxxxxxxxxxxxxxxxxxxxxxxxxxxxxxxxxxxxxxu ro_44 (Nat.le_refl _) (Nat.le_refl _) (fun i _ => th_sI (x := 0) (by decide) (by decide))
  have hR1 := th_RC_up hI1 hR1 (x := (44, a0)) k25xxxxxxxxxxxxxxxxxxxxxxxxxxxxxxxxxxxxxxxxxxxu.2.1 n25xxxxxxxxxxxxxxxxxxxxxxxxxxxxxxxxxxxxxxxxxxxu hI2 (fun e => absurd (show (44 : Nat) = 3 from e) (by decide)) (fun e => absurd (show (44 : Nat) = 18 ∨ (44 : Nat) = 19 from e) (by decide)) (show (44 : Nat) ≠ 12 by decide)
  have hI1 := hI2
  have hIN := th_IN_up (b := b25) (x := (44, a0)) hIN (ini_r rfl rfl rfl rfl (fun i hi => th_sl_at k25xxxxxxxxxxxxxxxxxxxxxxxxxxxxxxxxxxxxxxxxxxx.2.2 (arrV_read _ _ hi)))
  have ho := th_OB_up (b := b25) (x := (44, a0)) ho (by have q9 := lb25; omega)
  have k142xxxxxxxxxxxuu := th_MA_up (b := b25) (x := (44, a0)) k142xxxxxxxxxxxu (fun e => (of_ne of_b25 of_b142 (by decide)) e.symm)
  have n142xxxxxxxxxxxuu : ¬ th_MR G (th_up (th_up Γ183_1 b17 (43, a0)) b25 (44, a0)) H186_1 b142 := fun w => n142xxxxxxxxxxxu (th_MR_up (show (44 : Nat) ≠ 12 by decide) w)
  have hI2 := th_nmA (r := 45) (o := a0) hI1 k142xxxxxxxxxxxuu ro_45 (Nat.le_refl _) (Nat.le_refl _) (fun i _ => th_sI (x := 0) (by decide) (by decide))
  have hR1 := th_RC_up hI1 hR1 (x := (45, a0)) k142xxxxxxxxxxxuu.2.1 n142xxxxxxxxxxxuu hI2 (fun e => absurd (show (45 : Nat) = 3 from e) (by decide)) (fun e => absurd (show (45 : Nat) = 18 ∨ (45 : Nat) = 19 from e) (by decide)) (show (45 : Nat) ≠ 12 by decide)
  have hI1 := hI2
  have hIN := th_IN_up (b := b142) (x := (45, a0)) hIN (ini_r rfl rfl rfl rfl (fun i hi => th_sl_at k142xxxxxxxxxxx.2.2 (arrV_read _ _ hi)))
  have ho := th_OB_up (b := b142) (x := (45, a0)) ho (by have q9 := lb142; omega)
  have g_b17 : (th_up (th_up (th_up Γ183_1 b17 (43, a0)) b25 (44, a0)) b142 (45, a0)) b17 = (43, a0) := (th_up_n ((of_ne of_b17 of_b142 (by decide)))).trans ((th_up_n ((of_ne of_b17 of_b25 (by decide)))).trans (th_up_s))
  have g_b25 : (th_up (th_up (th_up Γ183_1 b17 (43, a0)) b25 (44, a0)) b142 (45, a0)) b25 = (44, a0) := (th_up_n ((of_ne of_b25 of_b142 (by decide)))).trans (th_up_s)
  have g_b142 : (th_up (th_up (th_up Γ183_1 b17 (43, a0)) b25 (44, a0)) b142 (45, a0)) b142 = (45, a0) := th_up_s
  have nm0 : ¬ th_MR G (th_up (th_up (th_up Γ183_1 b17 (43, a0)) b25 (44, a0)) b142 (45, a0)) H186_1 a0 := fun w => hB.2.2.1 (th_MR_up (show (43 : Nat) ≠ 12 by decide) (th_MR_up (show (44 : Nat) ≠ 12 by decide) (th_MR_up (show (45 : Nat) ≠ 12 by decide) w)))
  have hI2 := th_nmO (r := 42) hI1 ho hsz ro_42 rfl (fun j q hq => by
    match j, hq with
    | 0, hq => have e9 := Option.some.inj hq; subst e9; exact th_sR ((th_up_n (of_ne of_b5 of_b142 (by decide))).trans ((th_up_n (of_ne of_b5 of_b25 (by decide))).trans ((th_up_n (of_ne of_b5 of_b17 (by decide))).trans hr_b5xxxxxxxxxxxx)))
    | 1, hq => have e9 := Option.some.inj hq; subst e9; exact th_sO g_b17
    | 2, hq => have e9 := Option.some.inj hq; subst e9; exact th_sO g_b25
    | 3, hq => have e9 := Option.some.inj hq; subst e9; exact th_sR ((th_up_n (of_ne of_b31 of_b142 (by decide))).trans ((th_up_n (of_ne of_b31 of_b25 (by decide))).trans ((th_up_n (of_ne of_b31 of_b17 (by decide))).trans hr_b31xxxxxxxxxxx)))
    | 4, hq => have e9 := Option.some.inj hq; subst e9; exact th_sR ((th_up_n (of_ne of_b42 of_b142 (by decide))).trans ((th_up_n (of_ne of_b42 of_b25 (by decide))).trans ((th_up_n (of_ne of_b42 of_b17 (by decide))).trans hr_b42xxxxxxxxxx)))
    | 5, hq => have e9 := Option.some.inj hq; subst e9; exact th_sR ((th_up_n (of_ne of_b53 of_b142 (by decide))).trans ((th_up_n (of_ne of_b53 of_b25 (by decide))).trans ((th_up_n (of_ne of_b53 of_b17 (by decide))).trans hr_b53xxxxxxxxx)))
    | 6, hq => have e9 := Option.some.inj hq; subst e9; exact th_sR ((th_up_n (of_ne of_b64 of_b142 (by decide))).trans ((th_up_n (of_ne of_b64 of_b25 (by decide))).trans ((th_up_n (of_ne of_b64 of_b17 (by decide))).trans hr_b64xxxxxxxx)))
    | 7, hq => have e9 := Option.some.inj hq; subst e9; exact th_sR ((th_up_n (of_ne of_b75 of_b142 (by decide))).trans ((th_up_n (of_ne of_b75 of_b25 (by decide))).trans ((th_up_n (of_ne of_b75 of_b17 (by decide))).trans hr_b75xxxxxxx)))
    | 8, hq => have e9 := Option.some.inj hq; subst e9; exact th_sR ((th_up_n (of_ne of_b86 of_b142 (by decide))).trans ((th_up_n (of_ne of_b86 of_b25 (by decide))).trans ((th_up_n (of_ne of_b86 of_b17 (by decide))).trans hr_b86xxxxxx)))
    | 9, hq => have e9 := Option.some.inj hq; subst e9; exact th_sR ((th_up_n (of_ne of_b97 of_b142 (by decide))).trans ((th_up_n (of_ne of_b97 of_b25 (by decide))).trans ((th_up_n (of_ne of_b97 of_b17 (by decide))).trans hr_b97xxxxx)))
    | 10, hq => have e9 := Option.some.inj hq; subst e9; exact th_sR ((th_up_n (of_ne of_b108 of_b142 (by decide))).trans ((th_up_n (of_ne of_b108 of_b25 (by decide))).trans ((th_up_n (of_ne of_b108 of_b17 (by decide))).trans hr_b108xxxx)))
    | 11, hq => have e9 := Option.some.inj hq; subst e9; exact th_sR ((th_up_n (of_ne of_b119 of_b142 (by decide))).trans ((th_up_n (of_ne of_b119 of_b25 (by decide))).trans ((th_up_n (of_ne of_b119 of_b17 (by decide))).trans hr_b119xxx)))
    | 12, hq => have e9 := Option.some.inj hq; subst e9; exact th_sR ((th_up_n (of_ne of_b130 of_b142 (by decide))).trans ((th_up_n (of_ne of_b130 of_b25 (by decide))).trans ((th_up_n (of_ne of_b130 of_b17 (by decide))).trans hr_b130xx)))
    | 13, hq => have e9 := Option.some.inj hq; subst e9; exact th_sO g_b142
    | 14, hq => have e9 := Option.some.inj hq; subst e9; exact th_sI (x := 0) (by decide) (by decide)
    | 15, hq => have e9 := Option.some.inj hq; subst e9; exact th_sI (x := (-1)) (by decide) (by decide)
    | 16, hq => have e9 := Option.some.inj hq; subst e9; exact th_sI (x := 0) (by decide) (by decide)
    | 17, hq => have e9 := Option.some.inj hq; subst e9; exact th_sI (x := (-1)) (by decide) (by decide)
    | n + 18, hq => exact absurd (List.getElem?_eq_some_iff.mp hq).1 (by simp))
  have hR2 := th_RC_up hI1 hR1 (x := (42, 0)) ho.1 nm0 hI2 (fun e => absurd e (by decide)) (fun e => absurd e (by decide)) (by decide)
  have hIN2 := th_IN_up (b := a0) (x := (42, 0)) hIN (ini_f (r := 42) ho rfl rfl rfl (fun j x hm => by
    rcases List.mem_cons.mp hm with e | hm
    · cases e; exact ⟨by decide, rfl⟩
    rcases List.mem_cons.mp hm with e | hm
    · cases e; exact ⟨by decide, rfl⟩
    rcases List.mem_cons.mp hm with e | hm
    · cases e; exact ⟨by decide, rfl⟩
    rcases List.mem_cons.mp hm with e | hm
    · cases e; exact ⟨by decide, rfl⟩
    cases hm) (fun j d hm => by
    rcases List.mem_cons.mp hm with e | hm
    · cases e; exact ⟨by decide, by rw [← of_b5]; rfl⟩
    rcases List.mem_cons.mp hm with e | hm
    · cases e; exact ⟨by decide, by rw [← of_b17]; rfl⟩
    rcases List.mem_cons.mp hm with e | hm
    · cases e; exact ⟨by decide, by rw [← of_b25]; rfl⟩
    rcases List.mem_cons.mp hm with e | hm
    · cases e; exact ⟨by decide, by rw [← of_b31]; rfl⟩
    rcases List.mem_cons.mp hm with e | hm
    · cases e; exact ⟨by decide, by rw [← of_b42]; rfl⟩
    rcases List.mem_cons.mp hm with e | hm
    · cases e; exact ⟨by decide, by rw [← of_b53]; rfl⟩
    rcases List.mem_cons.mp hm with e | hm
    · cases e; exact ⟨by decide, by rw [← of_b64]; rfl⟩
    rcases List.mem_cons.mp hm with e | hm
    · cases e; exact ⟨by decide, by rw [← of_b75]; rfl⟩
    rcases List.mem_cons.mp hm with e | hm
    · cases e; exact ⟨by decide, by rw [← of_b86]; rfl⟩
    rcases List.mem_cons.mp hm with e | hm
    · cases e; exact ⟨by decide, by rw [← of_b97]; rfl⟩
    rcases List.mem_cons.mp hm with e | hm
    · cases e; exact ⟨by decide, by rw [← of_b108]; rfl⟩
    rcases List.mem_cons.mp hm with e | hm
    · cases e; exact ⟨by decide, by rw [← of_b119]; rfl⟩
    rcases List.mem_cons.mp hm with e | hm
    · cases e; exact ⟨by decide, by rw [← of_b130]; rfl⟩
    rcases List.mem_cons.mp hm with e | hm
    · cases e; exact ⟨by decide, by rw [← of_b142]; rfl⟩
    cases hm))
  have gq : ∀ q, q < H0.size → q ≠ a0 → (th_up (th_up (th_up (th_up Γ183_1 b17 (43, a0)) b25 (44, a0)) b142 (45, a0)) a0 (42, 0)) q = Γ183_1 q := fun q h1 h2 => ((((th_up_n h2).trans (th_up_n (by have q9 := lb142; omega))).trans (th_up_n (by have q9 := lb25; omega))).trans (th_up_n (by have q9 := lb17; omega)))
  refine th_vret hC hH hr hlocks hB.1.2.1 ⟨rfl, (th_up (th_up (th_up (th_up Γ183_1 b17 (43, a0)) b25 (44, a0)) b142 (45, a0)) a0 (42, 0)), ⟨⟨hI2, (by omega), fun q h1 h2 => ⟨(gq q h1 h2).trans (hB.1.2.2.2.1 q h1 h2), hB.1.2.2.1 q h1 h2⟩⟩, hR2, th_up_s, fun q w => hB.2.2.2 q (th_MR_up (show (43 : Nat) ≠ 12 by decide) (th_MR_up (show (44 : Nat) ≠ 12 by decide) (th_MR_up (show (45 : Nat) ≠ 12 by decide) (th_MR_up (show (42 : Nat) ≠ 12 by decide) w)))), fun q x o hg hq hs => ?_⟩, hIN2, hs⟩ dX11_init_193
  by_cases e_a0 : q = a0
  · rw [e_a0, th_up_s] at hg; cases hg; decide
  rw [th_up_n e_a0] at hg
  by_cases e_b142 : q = b142
  · rw [e_b142, th_up_s] at hg; cases hg; decide
  rw [th_up_n e_b142] at hg
  by_cases e_b25 : q = b25
  · rw [e_b25, th_up_s] at hg; cases hg; decide
  rw [th_up_n e_b25] at hg
  by_cases e_b17 : q = b17
  · rw [e_b17, th_up_s] at hg; cases hg; decide
  rw [th_up_n e_b17] at hg
  exact (show ∀ x ∈ (((((((((((((([] ++ [3, 4, 5, 6, 7, 8, 9, 10, 32, 33, 34, 35, 36, 39, 40, 41]) ++ [3, 4, 5, 6, 7, 8, 9, 10]) ++ [3, 4, 5, 6, 7, 8, 9, 10]) ++ [37, 38]) ++ [20, 21, 22]) ++ [39, 40, 41]) ++ [23, 24, 25, 26]) ++ [11, 23, 24, 25, 26]) ++ [3, 4, 5, 6, 7, 8, 9, 10, 17, 18, 19]) ++ [12, 27, 28, 29, 30, 31]) ++ [1, 2]) ++ [3, 4, 5, 6, 7, 8, 9, 10, 32, 33, 34, 35, 36, 39, 40, 41]) ++ [3, 4, 5, 6, 7, 8, 9, 10, 32, 33, 34, 35, 36, 39, 40, 41]) : List Nat), x ∈ [1, 2, 3, 4, 5, 6, 7, 8, 9, 10, 11, 12, 17, 18, 19, 20, 21, 22, 23, 24, 25, 26, 27, 28, 29, 30, 31, 32, 33, 34, 35, 36, 37, 38, 39, 40, 41, 42, 43, 44, 45] by decide) x (hN q x o hg hq hs)
end
section
def mo_V0 (n : Nat) : Nat → Value := (updV (updV (updV (updV (updV (updV (updV (updV (updV (updV (updV (updV (updV (updV (updV (updV (updV (updV (updV (updV (updV (updV (updV (updV (updV (updV (updV (fun j => defaultValue (tyX12 j)) 1 (.ref (n + 0))) 2 (.ref (n + 1))) 3 (.ref (n + 2))) 4 (.ref (n + 3))) 5 (.ref (n + 4))) 7 (.ref (n + 5))) 11 (.ref (n + 6))) 12 (.ref (n + 7))) 14 (.int (-1))) 15 (.ref (n + 8))) 16 (.ref (n + 9))) 17 (.ref (n + 10))) 26 (.ref (n + 11))) 29 (.ref (n + 12))) 30 (.ref (n + 13))) 31 (.ref (n + 14))) 32 (.ref (n + 15))) 34 (.ref (n + 16))) 35 (.ref (n + 17))) 36 (.ref (n + 18))) 37 (.ref (n + 19))) 38 (.ref (n + 20))) 46 (.ref (n + 21))) 47 (.int (-1))) 53 (.ref (n + 22))) 54 (.ref (n + 23))) 55 (.int (-1)))
/-- what a new reference holds -/
def th_M0 (G : th_G) (H : Heap) (a n : Nat) (f : Nat → Value) : Prop := (∀ j, j < 57 → th_sl H a (G.1.2 12 j) = mo_V0 n j) ∧ ∀ (i : Nat) (x : Nat × Nat × (Nat → Value)), (mq_4 f)[i]? = some x → H[n + i]? = some (arrV (G.2.1 x.1) x.2.1 x.2.2)
set_option maxHeartbeats 4000000 in
set_option maxRecDepth 100000 in
theorem c_X12_init_i (l : Launch) (G : th_G) (Γ : th_Ga) (H0 : Heap) (hI : th_I G Γ H0) (hR : th_RC G Γ H0) (a0 : Nat) (ho : th_OB G Γ H0 a0 12 57 (fun j => defaultValue (tyX12 j))) (hsz : G.2.2 ≤ a0) (hlt : a0 < H0.size) (hm : ¬ th_MR G Γ H0 a0) : Met l yX12_init (.code yX12_init cX12_init 1 (none) :: th_tb) ({ frames := 1, cells := 24, slots := 22503, locals := 12 } : Room) (th_P [.ref a0] G H0) (th_Q (fun (v : Option Value) (H1 : Heap) => v = none ∧ ∃ Γ1 : th_Ga, th_NY G Γ Γ1 a0 46 [46, 47, 48, 49, 50, 51, 52, 53, 54, 55, 56, 57, 58, 59, 60, 61, 62, 63, 64, 65, 66, 67, 68, 69, 70] H0 H1 ∧ th_RN a0 G Γ1 H1 ∧ ∃ f : Nat → Value, th_M0 G H1 a0 H0.size f) G) 24 22503 (fun q => G.2.2 ≤ q) := by
  refine th_met RX12 (by decide) rfl (Nat.le_of_ble_eq_true rfl) ?_
  intro p e s m below meth c hC hH hr hlocks hnm ls hl
  have hx := hC.1
  have hb := hC.2.1
  have hB : th_MB G Γ a0 H0 H0 [] (fun j => defaultValue (tyX12 j)) [] := ⟨⟨hI, va_S.rf, fun _ _ _ => rfl, fun _ _ _ => rfl, ho.1, hsz, hlt⟩, ho, rfl, fun i x h => by cases h⟩
  have hl : lv_has ls 1 [(0, .ref a0)] := hl
  refine lv_aload_n hx hb dX12_init_0 rfl (lv_at hl 0 rfl) ?_
  refine W.objInit hx hb hC.2.2.2.1 (hC.2.2.2.2.1 _ kw_1225) (hC.2.2.2.2.1 _ kw_28) (hC.2.2.2.2.1 _ kw_29) rfl (hl.1.trans hC.2.2.1.symm) rfl dX12_init_1 (Nat.le_of_ble_eq_true rfl) (Nat.le_of_ble_eq_true rfl) ?_
  refine W.eq (g2 := F0 m 4 ls []) rfl ?_
  refine lv_aload_n hx hb dX12_init_4 rfl (lv_at hl 0 rfl) ?_
  refine lv_bipush (v := 7) hx hb dX12_init_5 (by decide) ?_
  refine mb_new (ty := .int) (t := 0) (k := 0) (rows1 := mr_1) hC hB rfl rfl rfl kw_104 (N := 7) tk_7 (by decide) (Nat.le_of_ble_eq_true rfl) (Nat.le_of_ble_eq_true rfl) dX12_init_7 rfl rfl (fun H hB => ?_)
  refine W.eq (g2 := F0 m 9 ls [.ref (H0.size + 0), .ref a0]) rfl ?_
  refine mb_putF (j := 1) hC cf_X12 hB (by decide) rfl hnm rfl rfl kf_X12_7 dX12_init_9 (fun H locs hB => ?_)
  refine W.eq (g2 := F0 m 12 ls []) rfl ?_
  refine lv_aload_n hx hb dX12_init_12 rfl (lv_at hl 0 rfl) ?_
  refine lv_sipush (v := 5680) hx hb dX12_init_13 (by decide) ?_
  refine mb_new (ty := .int) (t := 0) (k := 1) (rows1 := mr_2) hC hB rfl rfl rfl kw_104 (N := 5680) mt_5680 (by decide) (Nat.le_of_ble_eq_true rfl) (Nat.le_of_ble_eq_true rfl) dX12_init_16 rfl rfl (fun H hB => ?_)
  refine W.eq (g2 := F0 m 18 ls [.ref (H0.size + 1), .ref a0]) rfl ?_
  refine mb_putF (j := 2) hC cf_X12 hB (by decide) rfl hnm rfl rfl kf_X12_28 dX12_init_18 (fun H locs hB => ?_)
  refine W.eq (g2 := F0 m 21 ls []) rfl ?_
  refine lv_aload_n hx hb dX12_init_21 rfl (lv_at hl 0 rfl) ?_
  refine lv_sipush (v := 11360) hx hb dX12_init_22 (by decide) ?_
  refine mb_new (ty := .int) (t := 0) (k := 2) (rows1 := mr_3) hC hB rfl rfl rfl kw_104 (N := 11360) mt_11360 (by decide) (Nat.le_of_ble_eq_true rfl) (Nat.le_of_ble_eq_true rfl) dX12_init_25 rfl rfl (fun H hB => ?_)
  refine W.eq (g2 := F0 m 27 ls [.ref (H0.size + 2), .ref a0]) rfl ?_
  refine mb_putF (j := 3) hC cf_X12 hB (by decide) rfl hnm rfl rfl kf_X12_31 dX12_init_27 (fun H locs hB => ?_)
  refine W.eq (g2 := F0 m 30 ls []) rfl ?_
  refine lv_aload_n hx hb dX12_init_30 rfl (lv_at hl 0 rfl) ?_
  refine lv_iconst (v := 2) hx hb dX12_init_31 (by decide) ?_
  refine mb_new (ty := .boolean) (t := 2) (k := 3) (rows1 := mr_4) hC hB rfl rfl rfl kw_187 (N := 2) tk_2 (by decide) (Nat.le_of_ble_eq_true rfl) (Nat.le_of_ble_eq_true rfl) dX12_init_32 rfl rfl (fun H hB => ?_)
  refine W.eq (g2 := F0 m 34 ls [.ref (H0.size + 3), .ref a0]) rfl ?_
  refine mb_putF (j := 4) hC cf_X12 hB (by decide) rfl hnm rfl rfl kf_X12_34 dX12_init_34 (fun H locs hB => ?_)
  refine W.eq (g2 := F0 m 37 ls []) rfl ?_
  refine lv_aload_n hx hb dX12_init_37 rfl (lv_at hl 0 rfl) ?_
  refine lv_bipush (v := 58) hx hb dX12_init_38 (by decide) ?_
  refine mb_new (ty := .int) (t := 0) (k := 4) (rows1 := mr_5) hC hB rfl rfl rfl kw_104 (N := 58) tk_58 (by decide) (Nat.le_of_ble_eq_true rfl) (Nat.le_of_ble_eq_true rfl) dX12_init_40 rfl rfl (fun H hB => ?_)
  refine W.eq (g2 := F0 m 42 ls [.ref (H0.size + 4), .ref a0]) rfl ?_
  refine mb_putF (j := 5) hC cf_X12 hB (by decide) rfl hnm rfl rfl kf_X12_38 dX12_init_42 (fun H locs hB => ?_)
  refine W.eq (g2 := F0 m 45 ls []) rfl ?_
  refine lv_aload_n hx hb dX12_init_45 rfl (lv_at hl 0 rfl) ?_
  refine lv_bipush (v := 127) hx hb dX12_init_46 (by decide) ?_
  refine mb_new (ty := .byte) (t := 3) (k := 5) (rows1 := (mr_5 ++ [(3, 127, fun _ => defaultValue .byte)])) hC hB rfl rfl rfl kw_771 (N := 127) tk_127 (by decide) (Nat.le_of_ble_eq_true rfl) (Nat.le_of_ble_eq_true rfl) dX12_init_48 rfl rfl (fun H hB => ?_)
  refine W.eq (g2 := F0 m 50 ls [.ref (H0.size + 5), .ref a0]) rfl ?_
  have hW : th_MW G Γ a0 H0 _ _ _ mr_5 0 := ⟨_, hB, fun i hi => absurd hi (Nat.not_lt_zero i)⟩
  refine mb_w4c (pc := 50) (pc' := 55) (n := 0) (n' := 1) hC hI hW rfl dX12_init_50 rfl dX12_init_51 rfl dX12_init_52 rfl dX12_init_54 rfl rfl (by decide) (by decide) rfl (by decide) (fun H locs hW => ?_)
  refine mb_w4c (pc := 55) (pc' := 60) (n := 1) (n' := 2) hC hI hW rfl dX12_init_55 rfl dX12_init_56 rfl dX12_init_57 rfl dX12_init_59 rfl rfl (by decide) (by decide) rfl (by decide) (fun H locs hW => ?_)
  refine mb_w4c (pc := 60) (pc' := 65) (n := 2) (n' := 3) hC hI hW rfl dX12_init_60 rfl dX12_init_61 rfl dX12_init_62 rfl dX12_init_64 rfl rfl (by decide) (by decide) rfl (by decide) (fun H locs hW => ?_)
  refine mb_w4c (pc := 65) (pc' := 70) (n := 3) (n' := 4) hC hI hW rfl dX12_init_65 rfl dX12_init_66 rfl dX12_init_67 rfl dX12_init_69 rfl rfl (by decide) (by decide) rfl (by decide) (fun H locs hW => ?_)
  refine mb_w4c (pc := 70) (pc' := 75) (n := 4) (n' := 5) hC hI hW rfl dX12_init_70 rfl dX12_init_71 rfl dX12_init_72 rfl dX12_init_74 rfl rfl (by decide) (by decide) rfl (by decide) (fun H locs hW => ?_)
  refine mb_w4c (pc := 75) (pc' := 80) (n := 5) (n' := 6) hC hI hW rfl dX12_init_75 rfl dX12_init_76 rfl dX12_init_77 rfl dX12_init_79 rfl rfl (by decide) (by decide) rfl (by decide) (fun H locs hW => ?_)
  refine mb_w4 (pc := 80) (pc' := 86) (n := 6) (n' := 7) hC hI hW rfl dX12_init_80 rfl dX12_init_81 rfl dX12_init_83 rfl dX12_init_85 rfl rfl (by decide) (by decide) rfl (by decide) (fun H locs hW => ?_)
  refine mb_w4 (pc := 86) (pc' := 92) (n := 7) (n' := 8) hC hI hW rfl dX12_init_86 rfl dX12_init_87 rfl dX12_init_89 rfl dX12_init_91 rfl rfl (by decide) (by decide) rfl (by decide) (fun H locs hW => ?_)
  refine mb_w4 (pc := 92) (pc' := 98) (n := 8) (n' := 9) hC hI hW rfl dX12_init_92 rfl dX12_init_93 rfl dX12_init_95 rfl dX12_init_97 rfl rfl (by decide) (by decide) rfl (by decide) (fun H locs hW => ?_)
  refine mb_w4 (pc := 98) (pc' := 104) (n := 9) (n' := 10) hC hI hW rfl dX12_init_98 rfl dX12_init_99 rfl dX12_init_101 rfl dX12_init_103 rfl rfl (by decide) (by decide) rfl (by decide) (fun H locs hW => ?_)
  refine mb_w4 (pc := 104) (pc' := 110) (n := 10) (n' := 11) hC hI hW rfl dX12_init_104 rfl dX12_init_105 rfl dX12_init_107 rfl dX12_init_109 rfl rfl (by decide) (by decide) rfl (by decide) (fun H locs hW => ?_)
  refine mb_w4 (pc := 110) (pc' := 116) (n := 11) (n' := 12) hC hI hW rfl dX12_init_110 rfl dX12_init_111 rfl dX12_init_113 rfl dX12_init_115 rfl rfl (by decide) (by decide) rfl (by decide) (fun H locs hW => ?_)
  refine mb_w4 (pc := 116) (pc' := 122) (n := 12) (n' := 13) hC hI hW rfl dX12_init_116 rfl dX12_init_117 rfl dX12_init_119 rfl dX12_init_121 rfl rfl (by decide) (by decide) rfl (by decide) (fun H locs hW => ?_)
  refine mb_w4 (pc := 122) (pc' := 128) (n := 13) (n' := 14) hC hI hW rfl dX12_init_122 rfl dX12_init_123 rfl dX12_init_125 rfl dX12_init_127 rfl rfl (by decide) (by decide) rfl (by decide) (fun H locs hW => ?_)
  refine mb_w4 (pc := 128) (pc' := 134) (n := 14) (n' := 15) hC hI hW rfl dX12_init_128 rfl dX12_init_129 rfl dX12_init_131 rfl dX12_init_133 rfl rfl (by decide) (by decide) rfl (by decide) (fun H locs hW => ?_)
  refine mb_w4 (pc := 134) (pc' := 140) (n := 15) (n' := 16) hC hI hW rfl dX12_init_134 rfl dX12_init_135 rfl dX12_init_137 rfl dX12_init_139 rfl rfl (by decide) (by decide) rfl (by decide) (fun H locs hW => ?_)
  refine mb_w4 (pc := 140) (pc' := 146) (n := 16) (n' := 17) hC hI hW rfl dX12_init_140 rfl dX12_init_141 rfl dX12_init_143 rfl dX12_init_145 rfl rfl (by decide) (by decide) rfl (by decide) (fun H locs hW => ?_)
  refine mb_w4 (pc := 146) (pc' := 152) (n := 17) (n' := 18) hC hI hW rfl dX12_init_146 rfl dX12_init_147 rfl dX12_init_149 rfl dX12_init_151 rfl rfl (by decide) (by decide) rfl (by decide) (fun H locs hW => ?_)
  refine mb_w4 (pc := 152) (pc' := 158) (n := 18) (n' := 19) hC hI hW rfl dX12_init_152 rfl dX12_init_153 rfl dX12_init_155 rfl dX12_init_157 rfl rfl (by decide) (by decide) rfl (by decide) (fun H locs hW => ?_)
  refine mb_w4 (pc := 158) (pc' := 164) (n := 19) (n' := 20) hC hI hW rfl dX12_init_158 rfl dX12_init_159 rfl dX12_init_161 rfl dX12_init_163 rfl rfl (by decide) (by decide) rfl (by decide) (fun H locs hW => ?_)
  refine mb_w4 (pc := 164) (pc' := 170) (n := 20) (n' := 21) hC hI hW rfl dX12_init_164 rfl dX12_init_165 rfl dX12_init_167 rfl dX12_init_169 rfl rfl (by decide) (by decide) rfl (by decide) (fun H locs hW => ?_)
  refine mb_w4 (pc := 170) (pc' := 176) (n := 21) (n' := 22) hC hI hW rfl dX12_init_170 rfl dX12_init_171 rfl dX12_init_173 rfl dX12_init_175 rfl rfl (by decide) (by decide) rfl (by decide) (fun H locs hW => ?_)
  refine mb_w4 (pc := 176) (pc' := 182) (n := 22) (n' := 23) hC hI hW rfl dX12_init_176 rfl dX12_init_177 rfl dX12_init_179 rfl dX12_init_181 rfl rfl (by decide) (by decide) rfl (by decide) (fun H locs hW => ?_)
  refine mb_w4 (pc := 182) (pc' := 188) (n := 23) (n' := 24) hC hI hW rfl dX12_init_182 rfl dX12_init_183 rfl dX12_init_185 rfl dX12_init_187 rfl rfl (by decide) (by decide) rfl (by decide) (fun H locs hW => ?_)
  refine mb_w4 (pc := 188) (pc' := 194) (n := 24) (n' := 25) hC hI hW rfl dX12_init_188 rfl dX12_init_189 rfl dX12_init_191 rfl dX12_init_193 rfl rfl (by decide) (by decide) rfl (by decide) (fun H locs hW => ?_)
  refine mb_w4 (pc := 194) (pc' := 200) (n := 25) (n' := 26) hC hI hW rfl dX12_init_194 rfl dX12_init_195 rfl dX12_init_197 rfl dX12_init_199 rfl rfl (by decide) (by decide) rfl (by decide) (fun H locs hW => ?_)
  refine mb_w4 (pc := 200) (pc' := 206) (n := 26) (n' := 27) hC hI hW rfl dX12_init_200 rfl dX12_init_201 rfl dX12_init_203 rfl dX12_init_205 rfl rfl (by decide) (by decide) rfl (by decide) (fun H locs hW => ?_)
  refine mb_w4 (pc := 206) (pc' := 212) (n := 27) (n' := 28) hC hI hW rfl dX12_init_206 rfl dX12_init_207 rfl dX12_init_209 rfl dX12_init_211 rfl rfl (by decide) (by decide) rfl (by decide) (fun H locs hW => ?_)
  refine mb_w4 (pc := 212) (pc' := 218) (n := 28) (n' := 29) hC hI hW rfl dX12_init_212 rfl dX12_init_213 rfl dX12_init_215 rfl dX12_init_217 rfl rfl (by decide) (by decide) rfl (by decide) (fun H locs hW => ?_)
  refine mb_w4 (pc := 218) (pc' := 224) (n := 29) (n' := 30) hC hI hW rfl dX12_init_218 rfl dX12_init_219 rfl dX12_init_221 rfl dX12_init_223 rfl rfl (by decide) (by decide) rfl (by decide) (fun H locs hW => ?_)
  refine mb_w4 (pc := 224) (pc' := 230) (n := 30) (n' := 31) hC hI hW rfl dX12_init_224 rfl dX12_init_225 rfl dX12_init_227 rfl dX12_init_229 rfl rfl (by decide) (by decide) rfl (by decide) (fun H locs hW => ?_)
  refine mb_w4 (pc := 230) (pc' := 236) (n := 31) (n' := 32) hC hI hW rfl dX12_init_230 rfl dX12_init_231 rfl dX12_init_233 rfl dX12_init_235 rfl rfl (by decide) (by decide) rfl (by decide) (fun H locs hW => ?_)
  refine mb_w4 (pc := 236) (pc' := 242) (n := 32) (n' := 33) hC hI hW rfl dX12_init_236 rfl dX12_init_237 rfl dX12_init_239 rfl dX12_init_241 rfl rfl (by decide) (by decide) rfl (by decide) (fun H locs hW => ?_)
  refine mb_w4 (pc := 242) (pc' := 248) (n := 33) (n' := 34) hC hI hW rfl dX12_init_242 rfl dX12_init_243 rfl dX12_init_245 rfl dX12_init_247 rfl rfl (by decide) (by decide) rfl (by decide) (fun H locs hW => ?_)
  refine mb_w4 (pc := 248) (pc' := 254) (n := 34) (n' := 35) hC hI hW rfl dX12_init_248 rfl dX12_init_249 rfl dX12_init_251 rfl dX12_init_253 rfl rfl (by decide) (by decide) rfl (by decide) (fun H locs hW => ?_)
  refine mb_w4 (pc := 254) (pc' := 260) (n := 35) (n' := 36) hC hI hW rfl dX12_init_254 rfl dX12_init_255 rfl dX12_init_257 rfl dX12_init_259 rfl rfl (by decide) (by decide) rfl (by decide) (fun H locs hW => ?_)
  refine mb_w4 (pc := 260) (pc' := 266) (n := 36) (n' := 37) hC hI hW rfl dX12_init_260 rfl dX12_init_261 rfl dX12_init_263 rfl dX12_init_265 rfl rfl (by decide) (by decide) rfl (by decide) (fun H locs hW => ?_)
  refine mb_w4 (pc := 266) (pc' := 272) (n := 37) (n' := 38) hC hI hW rfl dX12_init_266 rfl dX12_init_267 rfl dX12_init_269 rfl dX12_init_271 rfl rfl (by decide) (by decide) rfl (by decide) (fun H locs hW => ?_)
  refine mb_w4 (pc := 272) (pc' := 278) (n := 38) (n' := 39) hC hI hW rfl dX12_init_272 rfl dX12_init_273 rfl dX12_init_275 rfl dX12_init_277 rfl rfl (by decide) (by decide) rfl (by decide) (fun H locs hW => ?_)
  refine mb_w4 (pc := 278) (pc' := 284) (n := 39) (n' := 40) hC hI hW rfl dX12_init_278 rfl dX12_init_279 rfl dX12_init_281 rfl dX12_init_283 rfl rfl (by decide) (by decide) rfl (by decide) (fun H locs hW => ?_)
  refine mb_w4 (pc := 284) (pc' := 290) (n := 40) (n' := 41) hC hI hW rfl dX12_init_284 rfl dX12_init_285 rfl dX12_init_287 rfl dX12_init_289 rfl rfl (by decide) (by decide) rfl (by decide) (fun H locs hW => ?_)
  refine mb_w4 (pc := 290) (pc' := 296) (n := 41) (n' := 42) hC hI hW rfl dX12_init_290 rfl dX12_init_291 rfl dX12_init_293 rfl dX12_init_295 rfl rfl (by decide) (by decide) rfl (by decide) (fun H locs hW => ?_)
  refine mb_w4 (pc := 296) (pc' := 302) (n := 42) (n' := 43) hC hI hW rfl dX12_init_296 rfl dX12_init_297 rfl dX12_init_299 rfl dX12_init_301 rfl rfl (by decide) (by decide) rfl (by decide) (fun H locs hW => ?_)
  refine mb_w4 (pc := 302) (pc' := 308) (n := 43) (n' := 44) hC hI hW rfl dX12_init_302 rfl dX12_init_303 rfl dX12_init_305 rfl dX12_init_307 rfl rfl (by decide) (by decide) rfl (by decide) (fun H locs hW => ?_)
  refine mb_w4 (pc := 308) (pc' := 314) (n := 44) (n' := 45) hC hI hW rfl dX12_init_308 rfl dX12_init_309 rfl dX12_init_311 rfl dX12_init_313 rfl rfl (by decide) (by decide) rfl (by decide) (fun H locs hW => ?_)
  refine mb_w4 (pc := 314) (pc' := 320) (n := 45) (n' := 46) hC hI hW rfl dX12_init_314 rfl dX12_init_315 rfl dX12_init_317 rfl dX12_init_319 rfl rfl (by decide) (by decide) rfl (by decide) (fun H locs hW => ?_)
  refine mb_w4 (pc := 320) (pc' := 326) (n := 46) (n' := 47) hC hI hW rfl dX12_init_320 rfl dX12_init_321 rfl dX12_init_323 rfl dX12_init_325 rfl rfl (by decide) (by decide) rfl (by decide) (fun H locs hW => ?_)
  refine mb_w4 (pc := 326) (pc' := 332) (n := 47) (n' := 48) hC hI hW rfl dX12_init_326 rfl dX12_init_327 rfl dX12_init_329 rfl dX12_init_331 rfl rfl (by decide) (by decide) rfl (by decide) (fun H locs hW => ?_)
  refine mb_w4 (pc := 332) (pc' := 338) (n := 48) (n' := 49) hC hI hW rfl dX12_init_332 rfl dX12_init_333 rfl dX12_init_335 rfl dX12_init_337 rfl rfl (by decide) (by decide) rfl (by decide) (fun H locs hW => ?_)
  refine mb_w4 (pc := 338) (pc' := 344) (n := 49) (n' := 50) hC hI hW rfl dX12_init_338 rfl dX12_init_339 rfl dX12_init_341 rfl dX12_init_343 rfl rfl (by decide) (by decide) rfl (by decide) (fun H locs hW => ?_)
  refine mb_w4 (pc := 344) (pc' := 350) (n := 50) (n' := 51) hC hI hW rfl dX12_init_344 rfl dX12_init_345 rfl dX12_init_347 rfl dX12_init_349 rfl rfl (by decide) (by decide) rfl (by decide) (fun H locs hW => ?_)
  refine mb_w4 (pc := 350) (pc' := 356) (n := 51) (n' := 52) hC hI hW rfl dX12_init_350 rfl dX12_init_351 rfl dX12_init_353 rfl dX12_init_355 rfl rfl (by decide) (by decide) rfl (by decide) (fun H locs hW => ?_)
  refine mb_w4 (pc := 356) (pc' := 362) (n := 52) (n' := 53) hC hI hW rfl dX12_init_356 rfl dX12_init_357 rfl dX12_init_359 rfl dX12_init_361 rfl rfl (by decide) (by decide) rfl (by decide) (fun H locs hW => ?_)
  refine mb_w4 (pc := 362) (pc' := 368) (n := 53) (n' := 54) hC hI hW rfl dX12_init_362 rfl dX12_init_363 rfl dX12_init_365 rfl dX12_init_367 rfl rfl (by decide) (by decide) rfl (by decide) (fun H locs hW => ?_)
  refine mb_w4 (pc := 368) (pc' := 374) (n := 54) (n' := 55) hC hI hW rfl dX12_init_368 rfl dX12_init_369 rfl dX12_init_371 rfl dX12_init_373 rfl rfl (by decide) (by decide) rfl (by decide) (fun H locs hW => ?_)
  refine mb_w4 (pc := 374) (pc' := 380) (n := 55) (n' := 56) hC hI hW rfl dX12_init_374 rfl dX12_init_375 rfl dX12_init_377 rfl dX12_init_379 rfl rfl (by decide) (by decide) rfl (by decide) (fun H locs hW => ?_)
  refine mb_w4 (pc := 380) (pc' := 386) (n := 56) (n' := 57) hC hI hW rfl dX12_init_380 rfl dX12_init_381 rfl dX12_init_383 rfl dX12_init_385 rfl rfl (by decide) (by decide) rfl (by decide) (fun H locs hW => ?_)
  refine mb_w4 (pc := 386) (pc' := 392) (n := 57) (n' := 58) hC hI hW rfl dX12_init_386 rfl dX12_init_387 rfl dX12_init_389 rfl dX12_init_391 rfl rfl (by decide) (by decide) rfl (by decide) (fun H locs hW => ?_)
  refine mb_w4 (pc := 392) (pc' := 398) (n := 58) (n' := 59) hC hI hW rfl dX12_init_392 rfl dX12_init_393 rfl dX12_init_395 rfl dX12_init_397 rfl rfl (by decide) (by decide) rfl (by decide) (fun H locs hW => ?_)
  refine mb_w4 (pc := 398) (pc' := 404) (n := 59) (n' := 60) hC hI hW rfl dX12_init_398 rfl dX12_init_399 rfl dX12_init_401 rfl dX12_init_403 rfl rfl (by decide) (by decide) rfl (by decide) (fun H locs hW => ?_)
  refine mb_w4 (pc := 404) (pc' := 410) (n := 60) (n' := 61) hC hI hW rfl dX12_init_404 rfl dX12_init_405 rfl dX12_init_407 rfl dX12_init_409 rfl rfl (by decide) (by decide) rfl (by decide) (fun H locs hW => ?_)
  refine mb_w4 (pc := 410) (pc' := 416) (n := 61) (n' := 62) hC hI hW rfl dX12_init_410 rfl dX12_init_411 rfl dX12_init_413 rfl dX12_init_415 rfl rfl (by decide) (by decide) rfl (by decide) (fun H locs hW => ?_)
  refine mb_w4 (pc := 416) (pc' := 422) (n := 62) (n' := 63) hC hI hW rfl dX12_init_416 rfl dX12_init_417 rfl dX12_init_419 rfl dX12_init_421 rfl rfl (by decide) (by decide) rfl (by decide) (fun H locs hW => ?_)
  refine mb_w4 (pc := 422) (pc' := 428) (n := 63) (n' := 64) hC hI hW rfl dX12_init_422 rfl dX12_init_423 rfl dX12_init_425 rfl dX12_init_427 rfl rfl (by decide) (by decide) rfl (by decide) (fun H locs hW => ?_)
  refine mb_w4 (pc := 428) (pc' := 434) (n := 64) (n' := 65) hC hI hW rfl dX12_init_428 rfl dX12_init_429 rfl dX12_init_431 rfl dX12_init_433 rfl rfl (by decide) (by decide) rfl (by decide) (fun H locs hW => ?_)
  refine mb_w4 (pc := 434) (pc' := 440) (n := 65) (n' := 66) hC hI hW rfl dX12_init_434 rfl dX12_init_435 rfl dX12_init_437 rfl dX12_init_439 rfl rfl (by decide) (by decide) rfl (by decide) (fun H locs hW => ?_)
  refine mb_w4 (pc := 440) (pc' := 446) (n := 66) (n' := 67) hC hI hW rfl dX12_init_440 rfl dX12_init_441 rfl dX12_init_443 rfl dX12_init_445 rfl rfl (by decide) (by decide) rfl (by decide) (fun H locs hW => ?_)
  refine mb_w4 (pc := 446) (pc' := 452) (n := 67) (n' := 68) hC hI hW rfl dX12_init_446 rfl dX12_init_447 rfl dX12_init_449 rfl dX12_init_451 rfl rfl (by decide) (by decide) rfl (by decide) (fun H locs hW => ?_)
  refine mb_w4 (pc := 452) (pc' := 458) (n := 68) (n' := 69) hC hI hW rfl dX12_init_452 rfl dX12_init_453 rfl dX12_init_455 rfl dX12_init_457 rfl rfl (by decide) (by decide) rfl (by decide) (fun H locs hW => ?_)
  refine mb_w4 (pc := 458) (pc' := 464) (n := 69) (n' := 70) hC hI hW rfl dX12_init_458 rfl dX12_init_459 rfl dX12_init_461 rfl dX12_init_463 rfl rfl (by decide) (by decide) rfl (by decide) (fun H locs hW => ?_)
  refine mb_w4 (pc := 464) (pc' := 470) (n := 70) (n' := 71) hC hI hW rfl dX12_init_464 rfl dX12_init_465 rfl dX12_init_467 rfl dX12_init_469 rfl rfl (by decide) (by decide) rfl (by decide) (fun H locs hW => ?_)
  refine mb_w4 (pc := 470) (pc' := 476) (n := 71) (n' := 72) hC hI hW rfl dX12_init_470 rfl dX12_init_471 rfl dX12_init_473 rfl dX12_init_475 rfl rfl (by decide) (by decide) rfl (by decide) (fun H locs hW => ?_)
  refine mb_w4 (pc := 476) (pc' := 482) (n := 72) (n' := 73) hC hI hW rfl dX12_init_476 rfl dX12_init_477 rfl dX12_init_479 rfl dX12_init_481 rfl rfl (by decide) (by decide) rfl (by decide) (fun H locs hW => ?_)
  refine mb_w4 (pc := 482) (pc' := 488) (n := 73) (n' := 74) hC hI hW rfl dX12_init_482 rfl dX12_init_483 rfl dX12_init_485 rfl dX12_init_487 rfl rfl (by decide) (by decide) rfl (by decide) (fun H locs hW => ?_)
  refine mb_w4 (pc := 488) (pc' := 494) (n := 74) (n' := 75) hC hI hW rfl dX12_init_488 rfl dX12_init_489 rfl dX12_init_491 rfl dX12_init_493 rfl rfl (by decide) (by decide) rfl (by decide) (fun H locs hW => ?_)
  refine mb_w4 (pc := 494) (pc' := 500) (n := 75) (n' := 76) hC hI hW rfl dX12_init_494 rfl dX12_init_495 rfl dX12_init_497 rfl dX12_init_499 rfl rfl (by decide) (by decide) rfl (by decide) (fun H locs hW => ?_)
  refine mb_w4 (pc := 500) (pc' := 506) (n := 76) (n' := 77) hC hI hW rfl dX12_init_500 rfl dX12_init_501 rfl dX12_init_503 rfl dX12_init_505 rfl rfl (by decide) (by decide) rfl (by decide) (fun H locs hW => ?_)
  refine mb_w4 (pc := 506) (pc' := 512) (n := 77) (n' := 78) hC hI hW rfl dX12_init_506 rfl dX12_init_507 rfl dX12_init_509 rfl dX12_init_511 rfl rfl (by decide) (by decide) rfl (by decide) (fun H locs hW => ?_)
  refine mb_w4 (pc := 512) (pc' := 518) (n := 78) (n' := 79) hC hI hW rfl dX12_init_512 rfl dX12_init_513 rfl dX12_init_515 rfl dX12_init_517 rfl rfl (by decide) (by decide) rfl (by decide) (fun H locs hW => ?_)
  refine mb_w4 (pc := 518) (pc' := 524) (n := 79) (n' := 80) hC hI hW rfl dX12_init_518 rfl dX12_init_519 rfl dX12_init_521 rfl dX12_init_523 rfl rfl (by decide) (by decide) rfl (by decide) (fun H locs hW => ?_)
  refine mb_w4 (pc := 524) (pc' := 530) (n := 80) (n' := 81) hC hI hW rfl dX12_init_524 rfl dX12_init_525 rfl dX12_init_527 rfl dX12_init_529 rfl rfl (by decide) (by decide) rfl (by decide) (fun H locs hW => ?_)
  refine mb_w4 (pc := 530) (pc' := 536) (n := 81) (n' := 82) hC hI hW rfl dX12_init_530 rfl dX12_init_531 rfl dX12_init_533 rfl dX12_init_535 rfl rfl (by decide) (by decide) rfl (by decide) (fun H locs hW => ?_)
  refine mb_w4 (pc := 536) (pc' := 542) (n := 82) (n' := 83) hC hI hW rfl dX12_init_536 rfl dX12_init_537 rfl dX12_init_539 rfl dX12_init_541 rfl rfl (by decide) (by decide) rfl (by decide) (fun H locs hW => ?_)
  refine mb_w4 (pc := 542) (pc' := 548) (n := 83) (n' := 84) hC hI hW rfl dX12_init_542 rfl dX12_init_543 rfl dX12_init_545 rfl dX12_init_547 rfl rfl (by decide) (by decide) rfl (by decide) (fun H locs hW => ?_)
  refine mb_w4 (pc := 548) (pc' := 554) (n := 84) (n' := 85) hC hI hW rfl dX12_init_548 rfl dX12_init_549 rfl dX12_init_551 rfl dX12_init_553 rfl rfl (by decide) (by decide) rfl (by decide) (fun H locs hW => ?_)
  refine mb_w4 (pc := 554) (pc' := 560) (n := 85) (n' := 86) hC hI hW rfl dX12_init_554 rfl dX12_init_555 rfl dX12_init_557 rfl dX12_init_559 rfl rfl (by decide) (by decide) rfl (by decide) (fun H locs hW => ?_)
  refine mb_w4 (pc := 560) (pc' := 566) (n := 86) (n' := 87) hC hI hW rfl dX12_init_560 rfl dX12_init_561 rfl dX12_init_563 rfl dX12_init_565 rfl rfl (by decide) (by decide) rfl (by decide) (fun H locs hW => ?_)
  refine mb_w4 (pc := 566) (pc' := 572) (n := 87) (n' := 88) hC hI hW rfl dX12_init_566 rfl dX12_init_567 rfl dX12_init_569 rfl dX12_init_571 rfl rfl (by decide) (by decide) rfl (by decide) (fun H locs hW => ?_)
  refine mb_w4 (pc := 572) (pc' := 578) (n := 88) (n' := 89) hC hI hW rfl dX12_init_572 rfl dX12_init_573 rfl dX12_init_575 rfl dX12_init_577 rfl rfl (by decide) (by decide) rfl (by decide) (fun H locs hW => ?_)
  refine mb_w4 (pc := 578) (pc' := 584) (n := 89) (n' := 90) hC hI hW rfl dX12_init_578 rfl dX12_init_579 rfl dX12_init_581 rfl dX12_init_583 rfl rfl (by decide) (by decide) rfl (by decide) (fun H locs hW => ?_)
  refine mb_w4 (pc := 584) (pc' := 590) (n := 90) (n' := 91) hC hI hW rfl dX12_init_584 rfl dX12_init_585 rfl dX12_init_587 rfl dX12_init_589 rfl rfl (by decide) (by decide) rfl (by decide) (fun H locs hW => ?_)
  refine mb_w4 (pc := 590) (pc' := 596) (n := 91) (n' := 92) hC hI hW rfl dX12_init_590 rfl dX12_init_591 rfl dX12_init_593 rfl dX12_init_595 rfl rfl (by decide) (by decide) rfl (by decide) (fun H locs hW => ?_)
  refine mb_w4 (pc := 596) (pc' := 602) (n := 92) (n' := 93) hC hI hW rfl dX12_init_596 rfl dX12_init_597 rfl dX12_init_599 rfl dX12_init_601 rfl rfl (by decide) (by decide) rfl (by decide) (fun H locs hW => ?_)
  refine mb_w4 (pc := 602) (pc' := 608) (n := 93) (n' := 94) hC hI hW rfl dX12_init_602 rfl dX12_init_603 rfl dX12_init_605 rfl dX12_init_607 rfl rfl (by decide) (by decide) rfl (by decide) (fun H locs hW => ?_)
  refine mb_w4 (pc := 608) (pc' := 614) (n := 94) (n' := 95) hC hI hW rfl dX12_init_608 rfl dX12_init_609 rfl dX12_init_611 rfl dX12_init_613 rfl rfl (by decide) (by decide) rfl (by decide) (fun H locs hW => ?_)
  refine mb_w4 (pc := 614) (pc' := 620) (n := 95) (n' := 96) hC hI hW rfl dX12_init_614 rfl dX12_init_615 rfl dX12_init_617 rfl dX12_init_619 rfl rfl (by decide) (by decide) rfl (by decide) (fun H locs hW => ?_)
  refine mb_w4 (pc := 620) (pc' := 626) (n := 96) (n' := 97) hC hI hW rfl dX12_init_620 rfl dX12_init_621 rfl dX12_init_623 rfl dX12_init_625 rfl rfl (by decide) (by decide) rfl (by decide) (fun H locs hW => ?_)
  refine mb_w4 (pc := 626) (pc' := 632) (n := 97) (n' := 98) hC hI hW rfl dX12_init_626 rfl dX12_init_627 rfl dX12_init_629 rfl dX12_init_631 rfl rfl (by decide) (by decide) rfl (by decide) (fun H locs hW => ?_)
  refine mb_w4 (pc := 632) (pc' := 638) (n := 98) (n' := 99) hC hI hW rfl dX12_init_632 rfl dX12_init_633 rfl dX12_init_635 rfl dX12_init_637 rfl rfl (by decide) (by decide) rfl (by decide) (fun H locs hW => ?_)
  refine mb_w4 (pc := 638) (pc' := 644) (n := 99) (n' := 100) hC hI hW rfl dX12_init_638 rfl dX12_init_639 rfl dX12_init_641 rfl dX12_init_643 rfl rfl (by decide) (by decide) rfl (by decide) (fun H locs hW => ?_)
  refine mb_w4 (pc := 644) (pc' := 650) (n := 100) (n' := 101) hC hI hW rfl dX12_init_644 rfl dX12_init_645 rfl dX12_init_647 rfl dX12_init_649 rfl rfl (by decide) (by decide) rfl (by decide) (fun H locs hW => ?_)
  refine mb_w4 (pc := 650) (pc' := 656) (n := 101) (n' := 102) hC hI hW rfl dX12_init_650 rfl dX12_init_651 rfl dX12_init_653 rfl dX12_init_655 rfl rfl (by decide) (by decide) rfl (by decide) (fun H locs hW => ?_)
  refine mb_w4 (pc := 656) (pc' := 662) (n := 102) (n' := 103) hC hI hW rfl dX12_init_656 rfl dX12_init_657 rfl dX12_init_659 rfl dX12_init_661 rfl rfl (by decide) (by decide) rfl (by decide) (fun H locs hW => ?_)
  refine mb_w4 (pc := 662) (pc' := 668) (n := 103) (n' := 104) hC hI hW rfl dX12_init_662 rfl dX12_init_663 rfl dX12_init_665 rfl dX12_init_667 rfl rfl (by decide) (by decide) rfl (by decide) (fun H locs hW => ?_)
  refine mb_w4 (pc := 668) (pc' := 674) (n := 104) (n' := 105) hC hI hW rfl dX12_init_668 rfl dX12_init_669 rfl dX12_init_671 rfl dX12_init_673 rfl rfl (by decide) (by decide) rfl (by decide) (fun H locs hW => ?_)
  refine mb_w4 (pc := 674) (pc' := 680) (n := 105) (n' := 106) hC hI hW rfl dX12_init_674 rfl dX12_init_675 rfl dX12_init_677 rfl dX12_init_679 rfl rfl (by decide) (by decide) rfl (by decide) (fun H locs hW => ?_)
  refine mb_w4 (pc := 680) (pc' := 686) (n := 106) (n' := 107) hC hI hW rfl dX12_init_680 rfl dX12_init_681 rfl dX12_init_683 rfl dX12_init_685 rfl rfl (by decide) (by decide) rfl (by decide) (fun H locs hW => ?_)
  refine mb_w4 (pc := 686) (pc' := 692) (n := 107) (n' := 108) hC hI hW rfl dX12_init_686 rfl dX12_init_687 rfl dX12_init_689 rfl dX12_init_691 rfl rfl (by decide) (by decide) rfl (by decide) (fun H locs hW => ?_)
  refine mb_w4 (pc := 692) (pc' := 698) (n := 108) (n' := 109) hC hI hW rfl dX12_init_692 rfl dX12_init_693 rfl dX12_init_695 rfl dX12_init_697 rfl rfl (by decide) (by decide) rfl (by decide) (fun H locs hW => ?_)
  refine mb_w4 (pc := 698) (pc' := 704) (n := 109) (n' := 110) hC hI hW rfl dX12_init_698 rfl dX12_init_699 rfl dX12_init_701 rfl dX12_init_703 rfl rfl (by decide) (by decide) rfl (by decide) (fun H locs hW => ?_)
  refine mb_w4 (pc := 704) (pc' := 710) (n := 110) (n' := 111) hC hI hW rfl dX12_init_704 rfl dX12_init_705 rfl dX12_init_707 rfl dX12_init_709 rfl rfl (by decide) (by decide) rfl (by decide) (fun H locs hW => ?_)
  refine mb_w4 (pc := 710) (pc' := 716) (n := 111) (n' := 112) hC hI hW rfl dX12_init_710 rfl dX12_init_711 rfl dX12_init_713 rfl dX12_init_715 rfl rfl (by decide) (by decide) rfl (by decide) (fun H locs hW => ?_)
  refine mb_w4 (pc := 716) (pc' := 722) (n := 112) (n' := 113) hC hI hW rfl dX12_init_716 rfl dX12_init_717 rfl dX12_init_719 rfl dX12_init_721 rfl rfl (by decide) (by decide) rfl (by decide) (fun H locs hW => ?_)
  refine mb_w4 (pc := 722) (pc' := 728) (n := 113) (n' := 114) hC hI hW rfl dX12_init_722 rfl dX12_init_723 rfl dX12_init_725 rfl dX12_init_727 rfl rfl (by decide) (by decide) rfl (by decide) (fun H locs hW => ?_)
  refine mb_w4 (pc := 728) (pc' := 734) (n := 114) (n' := 115) hC hI hW rfl dX12_init_728 rfl dX12_init_729 rfl dX12_init_731 rfl dX12_init_733 rfl rfl (by decide) (by decide) rfl (by decide) (fun H locs hW => ?_)
  refine mb_w4 (pc := 734) (pc' := 740) (n := 115) (n' := 116) hC hI hW rfl dX12_init_734 rfl dX12_init_735 rfl dX12_init_737 rfl dX12_init_739 rfl rfl (by decide) (by decide) rfl (by decide) (fun H locs hW => ?_)
  refine mb_w4 (pc := 740) (pc' := 746) (n := 116) (n' := 117) hC hI hW rfl dX12_init_740 rfl dX12_init_741 rfl dX12_init_743 rfl dX12_init_745 rfl rfl (by decide) (by decide) rfl (by decide) (fun H locs hW => ?_)
  refine mb_w4 (pc := 746) (pc' := 752) (n := 117) (n' := 118) hC hI hW rfl dX12_init_746 rfl dX12_init_747 rfl dX12_init_749 rfl dX12_init_751 rfl rfl (by decide) (by decide) rfl (by decide) (fun H locs hW => ?_)
  refine mb_w4 (pc := 752) (pc' := 758) (n := 118) (n' := 119) hC hI hW rfl dX12_init_752 rfl dX12_init_753 rfl dX12_init_755 rfl dX12_init_757 rfl rfl (by decide) (by decide) rfl (by decide) (fun H locs hW => ?_)
  refine mb_w4 (pc := 758) (pc' := 764) (n := 119) (n' := 120) hC hI hW rfl dX12_init_758 rfl dX12_init_759 rfl dX12_init_761 rfl dX12_init_763 rfl rfl (by decide) (by decide) rfl (by decide) (fun H locs hW => ?_)
  refine mb_w4 (pc := 764) (pc' := 770) (n := 120) (n' := 121) hC hI hW rfl dX12_init_764 rfl dX12_init_765 rfl dX12_init_767 rfl dX12_init_769 rfl rfl (by decide) (by decide) rfl (by decide) (fun H locs hW => ?_)
  refine mb_w4 (pc := 770) (pc' := 776) (n := 121) (n' := 122) hC hI hW rfl dX12_init_770 rfl dX12_init_771 rfl dX12_init_773 rfl dX12_init_775 rfl rfl (by decide) (by decide) rfl (by decide) (fun H locs hW => ?_)
  refine mb_w4 (pc := 776) (pc' := 782) (n := 122) (n' := 123) hC hI hW rfl dX12_init_776 rfl dX12_init_777 rfl dX12_init_779 rfl dX12_init_781 rfl rfl (by decide) (by decide) rfl (by decide) (fun H locs hW => ?_)
  refine mb_w4 (pc := 782) (pc' := 788) (n := 123) (n' := 124) hC hI hW rfl dX12_init_782 rfl dX12_init_783 rfl dX12_init_785 rfl dX12_init_787 rfl rfl (by decide) (by decide) rfl (by decide) (fun H locs hW => ?_)
  refine mb_w4 (pc := 788) (pc' := 794) (n := 124) (n' := 125) hC hI hW rfl dX12_init_788 rfl dX12_init_789 rfl dX12_init_791 rfl dX12_init_793 rfl rfl (by decide) (by decide) rfl (by decide) (fun H locs hW => ?_)
  refine mb_w4 (pc := 794) (pc' := 800) (n := 125) (n' := 126) hC hI hW rfl dX12_init_794 rfl dX12_init_795 rfl dX12_init_797 rfl dX12_init_799 rfl rfl (by decide) (by decide) rfl (by decide) (fun H locs hW => ?_)
  refine mb_w4 (pc := 800) (pc' := 806) (n := 126) (n' := 127) hC hI hW rfl dX12_init_800 rfl dX12_init_801 rfl dX12_init_803 rfl dX12_init_805 rfl rfl (by decide) (by decide) rfl (by decide) (fun H locs hW => ?_)
  obtain ⟨fw, hB, hw⟩ := hW
  refine mb_putF (j := 7) hC cf_X12 hB (by decide) rfl hnm rfl rfl kf_X12_41 dX12_init_806 (fun H locs hB => ?_)
  refine W.eq (g2 := F0 m 809 ls []) rfl ?_
  refine lv_aload_n hx hb dX12_init_809 rfl (lv_at hl 0 rfl) ?_
  refine lv_sipush (v := 400) hx hb dX12_init_810 (by decide) ?_
  refine mb_new (ty := .byte) (t := 3) (k := 6) (rows1 := mr_7 fw) hC hB rfl rfl rfl kw_771 (N := 400) tk_400 (by decide) (Nat.le_of_ble_eq_true rfl) (Nat.le_of_ble_eq_true rfl) dX12_init_813 rfl rfl (fun H hB => ?_)
  refine W.eq (g2 := F0 m 815 ls [.ref (H0.size + 6), .ref a0]) rfl ?_
  refine mb_putF (j := 11) hC cf_X12 hB (by decide) rfl hnm rfl rfl kf_X12_45 dX12_init_815 (fun H locs hB => ?_)
  refine W.eq (g2 := F0 m 818 ls []) rfl ?_
  refine lv_aload_n hx hb dX12_init_818 rfl (lv_at hl 0 rfl) ?_
  refine lv_iconst (v := 5) hx hb dX12_init_819 (by decide) ?_
  refine mb_new (ty := .int) (t := 0) (k := 7) (rows1 := mr_8 fw) hC hB rfl rfl rfl kw_104 (N := 5) tk_5 (by decide) (Nat.le_of_ble_eq_true rfl) (Nat.le_of_ble_eq_true rfl) dX12_init_820 rfl rfl (fun H hB => ?_)
  refine W.eq (g2 := F0 m 822 ls [.ref (H0.size + 7), .ref a0]) rfl ?_
  refine mb_putF (j := 12) hC cf_X12 hB (by decide) rfl hnm rfl rfl kf_X12_48 dX12_init_822 (fun H locs hB => ?_)
  refine W.eq (g2 := F0 m 825 ls []) rfl ?_
  refine lv_aload_n hx hb dX12_init_825 rfl (lv_at hl 0 rfl) ?_
  refine lv_iconst (v := (-1)) hx hb dX12_init_826 (by decide) ?_
  refine mb_put (j := 14) hC cf_X12 hB (by decide) rfl rfl rfl kf_X12_51 dX12_init_827 (fun H locs hB => ?_)
  refine W.eq (g2 := F0 m 830 ls []) rfl ?_
  refine lv_aload_n hx hb dX12_init_830 rfl (lv_at hl 0 rfl) ?_
  refine lv_sipush (v := 401) hx hb dX12_init_831 (by decide) ?_
  refine mb_new (ty := .int) (t := 0) (k := 8) (rows1 := mr_9 fw) hC hB rfl rfl rfl kw_104 (N := 401) tk_401 (by decide) (Nat.le_of_ble_eq_true rfl) (Nat.le_of_ble_eq_true rfl) dX12_init_834 rfl rfl (fun H hB => ?_)
  refine W.eq (g2 := F0 m 836 ls [.ref (H0.size + 8), .ref a0]) rfl ?_
  refine mb_putF (j := 15) hC cf_X12 hB (by decide) rfl hnm rfl rfl kf_X12_54 dX12_init_836 (fun H locs hB => ?_)
  refine W.eq (g2 := F0 m 839 ls []) rfl ?_
  refine lv_aload_n hx hb dX12_init_839 rfl (lv_at hl 0 rfl) ?_
  refine lv_sipush (v := 401) hx hb dX12_init_840 (by decide) ?_
  refine mb_new (ty := .int) (t := 0) (k := 9) (rows1 := mr_10 fw) hC hB rfl rfl rfl kw_104 (N := 401) tk_401 (by decide) (Nat.le_of_ble_eq_true rfl) (Nat.le_of_ble_eq_true rfl) dX12_init_843 rfl rfl (fun H hB => ?_)
  refine W.eq (g2 := F0 m 845 ls [.ref (H0.size + 9), .ref a0]) rfl ?_
  refine mb_putF (j := 16) hC cf_X12 hB (by decide) rfl hnm rfl rfl kf_X12_57 dX12_init_845 (fun H locs hB => ?_)
  refine W.eq (g2 := F0 m 848 ls []) rfl ?_
  refine lv_aload_n hx hb dX12_init_848 rfl (lv_at hl 0 rfl) ?_
  refine lv_sipush (v := 401) hx hb dX12_init_849 (by decide) ?_
  refine mb_new (ty := .int) (t := 0) (k := 10) (rows1 := mr_11 fw) hC hB rfl rfl rfl kw_104 (N := 401) tk_401 (by decide) (Nat.le_of_ble_eq_true rfl) (Nat.le_of_ble_eq_true rfl) dX12_init_852 rfl rfl (fun H hB => ?_)
  refine W.eq (g2 := F0 m 854 ls [.ref (H0.size + 10), .ref a0]) rfl ?_
  refine mb_putF (j := 17) hC cf_X12 hB (by decide) rfl hnm rfl rfl kf_X12_60 dX12_init_854 (fun H locs hB => ?_)
  refine W.eq (g2 := F0 m 857 ls []) rfl ?_
  refine lv_aload_n hx hb dX12_init_857 rfl (lv_at hl 0 rfl) ?_
  refine lv_bipush (v := 8) hx hb dX12_init_858 (by decide) ?_
  refine mb_new (ty := .int) (t := 0) (k := 11) (rows1 := mr_12 fw) hC hB rfl rfl rfl kw_104 (N := 8) tk_8 (by decide) (Nat.le_of_ble_eq_true rfl) (Nat.le_of_ble_eq_true rfl) dX12_init_860 rfl rfl (fun H hB => ?_)
  refine W.eq (g2 := F0 m 862 ls [.ref (H0.size + 11), .ref a0]) rfl ?_
  refine mb_putF (j := 26) hC cf_X12 hB (by decide) rfl hnm rfl rfl kf_X12_63 dX12_init_862 (fun H locs hB => ?_)
  refine W.eq (g2 := F0 m 865 ls []) rfl ?_
  refine lv_aload_n hx hb dX12_init_865 rfl (lv_at hl 0 rfl) ?_
  refine lv_bipush (v := 12) hx hb dX12_init_866 (by decide) ?_
  refine mb_new (ty := .int) (t := 0) (k := 12) (rows1 := mr_13 fw) hC hB rfl rfl rfl kw_104 (N := 12) tk_12 (by decide) (Nat.le_of_ble_eq_true rfl) (Nat.le_of_ble_eq_true rfl) dX12_init_868 rfl rfl (fun H hB => ?_)
  refine W.eq (g2 := F0 m 870 ls [.ref (H0.size + 12), .ref a0]) rfl ?_
  refine mb_putF (j := 29) hC cf_X12 hB (by decide) rfl hnm rfl rfl kf_X12_66 dX12_init_870 (fun H locs hB => ?_)
  refine W.eq (g2 := F0 m 873 ls []) rfl ?_
  refine lv_aload_n hx hb dX12_init_873 rfl (lv_at hl 0 rfl) ?_
  refine lv_bipush (v := 9) hx hb dX12_init_874 (by decide) ?_
  refine mb_new (ty := .int) (t := 0) (k := 13) (rows1 := mr_14 fw) hC hB rfl rfl rfl kw_104 (N := 9) tk_9 (by decide) (Nat.le_of_ble_eq_true rfl) (Nat.le_of_ble_eq_true rfl) dX12_init_876 rfl rfl (fun H hB => ?_)
  refine W.eq (g2 := F0 m 878 ls [.ref (H0.size + 13), .ref a0]) rfl ?_
  refine mb_putF (j := 30) hC cf_X12 hB (by decide) rfl hnm rfl rfl kf_X12_69 dX12_init_878 (fun H locs hB => ?_)
  refine W.eq (g2 := F0 m 881 ls []) rfl ?_
  refine lv_aload_n hx hb dX12_init_881 rfl (lv_at hl 0 rfl) ?_
  refine lv_sipush (v := 480) hx hb dX12_init_882 (by decide) ?_
  refine mb_new (ty := .int) (t := 0) (k := 14) (rows1 := mr_15 fw) hC hB rfl rfl rfl kw_104 (N := 480) tk_480 (by decide) (Nat.le_of_ble_eq_true rfl) (Nat.le_of_ble_eq_true rfl) dX12_init_885 rfl rfl (fun H hB => ?_)
  refine W.eq (g2 := F0 m 887 ls [.ref (H0.size + 14), .ref a0]) rfl ?_
  refine mb_putF (j := 31) hC cf_X12 hB (by decide) rfl hnm rfl rfl kf_X12_72 dX12_init_887 (fun H locs hB => ?_)
  refine W.eq (g2 := F0 m 890 ls []) rfl ?_
  refine lv_aload_n hx hb dX12_init_890 rfl (lv_at hl 0 rfl) ?_
  refine lv_sipush (v := 480) hx hb dX12_init_891 (by decide) ?_
  refine mb_new (ty := .int) (t := 0) (k := 15) (rows1 := mr_16 fw) hC hB rfl rfl rfl kw_104 (N := 480) tk_480 (by decide) (Nat.le_of_ble_eq_true rfl) (Nat.le_of_ble_eq_true rfl) dX12_init_894 rfl rfl (fun H hB => ?_)
  refine W.eq (g2 := F0 m 896 ls [.ref (H0.size + 15), .ref a0]) rfl ?_
  refine mb_putF (j := 32) hC cf_X12 hB (by decide) rfl hnm rfl rfl kf_X12_75 dX12_init_896 (fun H locs hB => ?_)
  refine W.eq (g2 := F0 m 899 ls []) rfl ?_
  refine lv_aload_n hx hb dX12_init_899 rfl (lv_at hl 0 rfl) ?_
  refine lv_sipush (v := 1296) hx hb dX12_init_900 (by decide) ?_
  refine mb_new (ty := .int) (t := 0) (k := 16) (rows1 := mr_17 fw) hC hB rfl rfl rfl kw_104 (N := 1296) tk_1296 (by decide) (Nat.le_of_ble_eq_true rfl) (Nat.le_of_ble_eq_true rfl) dX12_init_903 rfl rfl (fun H hB => ?_)
  refine W.eq (g2 := F0 m 905 ls [.ref (H0.size + 16), .ref a0]) rfl ?_
  refine mb_putF (j := 34) hC cf_X12 hB (by decide) rfl hnm rfl rfl kf_X12_78 dX12_init_905 (fun H locs hB => ?_)
  refine W.eq (g2 := F0 m 908 ls []) rfl ?_
  refine lv_aload_n hx hb dX12_init_908 rfl (lv_at hl 0 rfl) ?_
  refine lv_bipush (v := 9) hx hb dX12_init_909 (by decide) ?_
  refine mb_new (ty := .int) (t := 0) (k := 17) (rows1 := mr_18 fw) hC hB rfl rfl rfl kw_104 (N := 9) tk_9 (by decide) (Nat.le_of_ble_eq_true rfl) (Nat.le_of_ble_eq_true rfl) dX12_init_911 rfl rfl (fun H hB => ?_)
  refine W.eq (g2 := F0 m 913 ls [.ref (H0.size + 17), .ref a0]) rfl ?_
  refine mb_putF (j := 35) hC cf_X12 hB (by decide) rfl hnm rfl rfl kf_X12_81 dX12_init_913 (fun H locs hB => ?_)
  refine W.eq (g2 := F0 m 916 ls []) rfl ?_
  refine lv_aload_n hx hb dX12_init_916 rfl (lv_at hl 0 rfl) ?_
  refine lv_bipush (v := 9) hx hb dX12_init_917 (by decide) ?_
  refine mb_new (ty := .int) (t := 0) (k := 18) (rows1 := mr_19 fw) hC hB rfl rfl rfl kw_104 (N := 9) tk_9 (by decide) (Nat.le_of_ble_eq_true rfl) (Nat.le_of_ble_eq_true rfl) dX12_init_919 rfl rfl (fun H hB => ?_)
  refine W.eq (g2 := F0 m 921 ls [.ref (H0.size + 18), .ref a0]) rfl ?_
  refine mb_putF (j := 36) hC cf_X12 hB (by decide) rfl hnm rfl rfl kf_X12_84 dX12_init_921 (fun H locs hB => ?_)
  refine W.eq (g2 := F0 m 924 ls []) rfl ?_
  refine lv_aload_n hx hb dX12_init_924 rfl (lv_at hl 0 rfl) ?_
  refine lv_bipush (v := 9) hx hb dX12_init_925 (by decide) ?_
  refine mb_new (ty := .int) (t := 0) (k := 19) (rows1 := mr_20 fw) hC hB rfl rfl rfl kw_104 (N := 9) tk_9 (by decide) (Nat.le_of_ble_eq_true rfl) (Nat.le_of_ble_eq_true rfl) dX12_init_927 rfl rfl (fun H hB => ?_)
  refine W.eq (g2 := F0 m 929 ls [.ref (H0.size + 19), .ref a0]) rfl ?_
  refine mb_putF (j := 37) hC cf_X12 hB (by decide) rfl hnm rfl rfl kf_X12_87 dX12_init_929 (fun H locs hB => ?_)
  refine W.eq (g2 := F0 m 932 ls []) rfl ?_
  refine lv_aload_n hx hb dX12_init_932 rfl (lv_at hl 0 rfl) ?_
  refine lv_sipush (v := 1296) hx hb dX12_init_933 (by decide) ?_
  refine mb_new (ty := .int) (t := 0) (k := 20) (rows1 := mr_21 fw) hC hB rfl rfl rfl kw_104 (N := 1296) tk_1296 (by decide) (Nat.le_of_ble_eq_true rfl) (Nat.le_of_ble_eq_true rfl) dX12_init_936 rfl rfl (fun H hB => ?_)
  refine W.eq (g2 := F0 m 938 ls [.ref (H0.size + 20), .ref a0]) rfl ?_
  refine mb_putF (j := 38) hC cf_X12 hB (by decide) rfl hnm rfl rfl kf_X12_90 dX12_init_938 (fun H locs hB => ?_)
  refine W.eq (g2 := F0 m 941 ls []) rfl ?_
  refine lv_aload_n hx hb dX12_init_941 rfl (lv_at hl 0 rfl) ?_
  refine lv_bipush (v := 21) hx hb dX12_init_942 (by decide) ?_
  refine mb_new (ty := .long) (t := 1) (k := 21) (rows1 := mr_22 fw) hC hB rfl rfl rfl kw_246 (N := 21) tk_21 (by decide) (Nat.le_of_ble_eq_true rfl) (Nat.le_of_ble_eq_true rfl) dX12_init_944 rfl rfl (fun H hB => ?_)
  refine W.eq (g2 := F0 m 946 ls [.ref (H0.size + 21), .ref a0]) rfl ?_
  refine mb_putF (j := 46) hC cf_X12 hB (by decide) rfl hnm rfl rfl kf_X12_93 dX12_init_946 (fun H locs hB => ?_)
  refine W.eq (g2 := F0 m 949 ls []) rfl ?_
  refine lv_aload_n hx hb dX12_init_949 rfl (lv_at hl 0 rfl) ?_
  refine lv_iconst (v := (-1)) hx hb dX12_init_950 (by decide) ?_
  refine mb_put (j := 47) hC cf_X12 hB (by decide) rfl rfl rfl kf_X12_97 dX12_init_951 (fun H locs hB => ?_)
  refine W.eq (g2 := F0 m 954 ls []) rfl ?_
  refine lv_aload_n hx hb dX12_init_954 rfl (lv_at hl 0 rfl) ?_
  refine lv_iconst (v := 3) hx hb dX12_init_955 (by decide) ?_
  refine mb_new (ty := .long) (t := 1) (k := 22) (rows1 := mr_23 fw) hC hB rfl rfl rfl kw_246 (N := 3) tk_3 (by decide) (Nat.le_of_ble_eq_true rfl) (Nat.le_of_ble_eq_true rfl) dX12_init_956 rfl rfl (fun H hB => ?_)
  refine W.eq (g2 := F0 m 958 ls [.ref (H0.size + 22), .ref a0]) rfl ?_
  refine mb_putF (j := 53) hC cf_X12 hB (by decide) rfl hnm rfl rfl kf_X12_100 dX12_init_958 (fun H locs hB => ?_)
  refine W.eq (g2 := F0 m 961 ls []) rfl ?_
  refine lv_aload_n hx hb dX12_init_961 rfl (lv_at hl 0 rfl) ?_
  refine lv_bipush (v := 29) hx hb dX12_init_962 (by decide) ?_
  refine mb_new (ty := .int) (t := 0) (k := 23) (rows1 := mr_24 fw) hC hB rfl rfl rfl kw_104 (N := 29) tk_29 (by decide) (Nat.le_of_ble_eq_true rfl) (Nat.le_of_ble_eq_true rfl) dX12_init_964 rfl rfl (fun H hB => ?_)
  refine W.eq (g2 := F0 m 966 ls [.ref (H0.size + 23), .ref a0]) rfl ?_
  refine mb_putF (j := 54) hC cf_X12 hB (by decide) rfl hnm rfl rfl kf_X12_103 dX12_init_966 (fun H locs hB => ?_)
  refine W.eq (g2 := F0 m 969 ls []) rfl ?_
  refine lv_aload_n hx hb dX12_init_969 rfl (lv_at hl 0 rfl) ?_
  refine lv_iconst (v := (-1)) hx hb dX12_init_970 (by decide) ?_
  refine mb_put (j := 55) hC cf_X12 hB (by decide) rfl rfl rfl kf_X12_106 dX12_init_971 (fun H locs hB => ?_)
  refine W.eq (g2 := F0 m 974 ls []) rfl ?_
  refine lv_aload_n hx hb dX12_init_974 rfl (lv_at hl 0 rfl) ?_
  refine tc_get (v := .ref (H0.size + 1)) hC cf_X12 hB.2.1 (j := 2) (by decide) rfl kf_X12_28 dX12_init_975 ?_
  refine lv_bipush (v := 65) hx hb dX12_init_978 (by decide) ?_
  refine lv_iconst (v := 1) hx hb dX12_init_980 (by decide) ?_
  refine mb_ist (k := 1) (x := 65) (rows1 := mq_1 fw) hC hI hB rfl tk_65 (by decide) dX12_init_981 rfl (fun H locs hB => ?_)
  refine W.eq (g2 := F0 m 982 ls []) rfl ?_
  refine lv_aload_n hx hb dX12_init_982 rfl (lv_at hl 0 rfl) ?_
  refine tc_get (v := .ref (H0.size + 1)) hC cf_X12 hB.2.1 (j := 2) (by decide) rfl kf_X12_28 dX12_init_983 ?_
  refine lv_bipush (v := 67) hx hb dX12_init_986 (by decide) ?_
  refine lv_bipush (v := 8) hx hb dX12_init_988 (by decide) ?_
  refine mb_ist (k := 1) (x := 67) (rows1 := mq_2 fw) hC hI hB rfl tk_67 (by decide) dX12_init_990 rfl (fun H locs hB => ?_)
  refine W.eq (g2 := F0 m 991 ls []) rfl ?_
  refine lv_aload_n hx hb dX12_init_991 rfl (lv_at hl 0 rfl) ?_
  refine tc_get (v := .ref (H0.size + 1)) hC cf_X12 hB.2.1 (j := 2) (by decide) rfl kf_X12_28 dX12_init_992 ?_
  refine lv_bipush (v := 68) hx hb dX12_init_995 (by decide) ?_
  refine lv_bipush (v := 8) hx hb dX12_init_997 (by decide) ?_
  refine mb_ist (k := 1) (x := 68) (rows1 := mq_3 fw) hC hI hB rfl tk_68 (by decide) dX12_init_999 rfl (fun H locs hB => ?_)
  refine W.eq (g2 := F0 m 1000 ls []) rfl ?_
  refine lv_aload_n hx hb dX12_init_1000 rfl (lv_at hl 0 rfl) ?_
  refine tc_get (v := .ref (H0.size + 1)) hC cf_X12 hB.2.1 (j := 2) (by decide) rfl kf_X12_28 dX12_init_1001 ?_
  refine lv_bipush (v := 72) hx hb dX12_init_1004 (by decide) ?_
  refine lv_iconst (v := (-1)) hx hb dX12_init_1006 (by decide) ?_
  refine mb_ist (k := 1) (x := 72) (rows1 := mq_4 fw) hC hI hB rfl tk_72 (by decide) dX12_init_1007 rfl (fun H locs hB => ?_)
  refine W.eq (g2 := F0 m 1008 ls []) rfl ?_
  have hI1 := mb_I hI hB rfl (fun i x hx => mq_rok hw hx) (fun j q hq Γ1 hg => by
    have g0 : Γ1 (H0.size + 0) = (47, a0) := hg 0 (by decide)
    have g1 : Γ1 (H0.size + 1) = (48, a0) := hg 1 (by decide)
    have g2 : Γ1 (H0.size + 2) = (49, a0) := hg 2 (by decide)
    have g3 : Γ1 (H0.size + 3) = (50, a0) := hg 3 (by decide)
    have g4 : Γ1 (H0.size + 4) = (51, a0) := hg 4 (by decide)
    have g5 : Γ1 (H0.size + 5) = (52, a0) := hg 5 (by decide)
    have g6 : Γ1 (H0.size + 6) = (53, a0) := hg 6 (by decide)
    have g7 : Γ1 (H0.size + 7) = (54, a0) := hg 7 (by decide)
    have g8 : Γ1 (H0.size + 8) = (55, a0) := hg 8 (by decide)
    have g9 : Γ1 (H0.size + 9) = (56, a0) := hg 9 (by decide)
    have g10 : Γ1 (H0.size + 10) = (57, a0) := hg 10 (by decide)
    have g11 : Γ1 (H0.size + 11) = (58, a0) := hg 11 (by decide)
    have g12 : Γ1 (H0.size + 12) = (59, a0) := hg 12 (by decide)
    have g13 : Γ1 (H0.size + 13) = (60, a0) := hg 13 (by decide)
    have g14 : Γ1 (H0.size + 14) = (61, a0) := hg 14 (by decide)
    have g15 : Γ1 (H0.size + 15) = (62, a0) := hg 15 (by decide)
    have g16 : Γ1 (H0.size + 16) = (63, a0) := hg 16 (by decide)
    have g17 : Γ1 (H0.size + 17) = (64, a0) := hg 17 (by decide)
    have g18 : Γ1 (H0.size + 18) = (65, a0) := hg 18 (by decide)
    have g19 : Γ1 (H0.size + 19) = (66, a0) := hg 19 (by decide)
    have g20 : Γ1 (H0.size + 20) = (67, a0) := hg 20 (by decide)
    have g21 : Γ1 (H0.size + 21) = (68, a0) := hg 21 (by decide)
    have g22 : Γ1 (H0.size + 22) = (69, a0) := hg 22 (by decide)
    have g23 : Γ1 (H0.size + 23) = (70, a0) := hg 23 (by decide)
    match j, hq with
    | 0, hq => have e9 := Option.some.inj hq; subst e9; exact th_sI (x := 0) (by decide) (by decide)
    | 1, hq => have e9 := Option.some.inj hq; subst e9; exact th_sO (r := 47) g0
    | 2, hq => have e9 := Option.some.inj hq; subst e9; exact th_sO (r := 48) g1
    | 3, hq => have e9 := Option.some.inj hq; subst e9; exact th_sO (r := 49) g2
    | 4, hq => have e9 := Option.some.inj hq; subst e9; exact th_sO (r := 50) g3
    | 5, hq => have e9 := Option.some.inj hq; subst e9; exact th_sO (r := 51) g4
    | 6, hq => have e9 := Option.some.inj hq; subst e9; exact th_sI (x := 0) (by decide) (by decide)
    | 7, hq => have e9 := Option.some.inj hq; subst e9; exact th_sO (r := 52) g5
    | 8, hq => have e9 := Option.some.inj hq; subst e9; exact th_sI (x := 0) (by decide) (by decide)
    | 9, hq => have e9 := Option.some.inj hq; subst e9; exact th_sI (x := 0) (by decide) (by decide)
    | 10, hq => have e9 := Option.some.inj hq; subst e9; exact th_sI (x := 0) (by decide) (by decide)
    | 11, hq => have e9 := Option.some.inj hq; subst e9; exact th_sO (r := 53) g6
    | 12, hq => have e9 := Option.some.inj hq; subst e9; exact th_sO (r := 54) g7
    | 13, hq => have e9 := Option.some.inj hq; subst e9; exact th_sI (x := 0) (by decide) (by decide)
    | 14, hq => have e9 := Option.some.inj hq; subst e9; exact th_sI (x := (-1)) (by decide) (by decide)
    | 15, hq => have e9 := Option.some.inj hq; subst e9; exact th_sO (r := 55) g8
    | 16, hq => have e9 := Option.some.inj hq; subst e9; exact th_sO (r := 56) g9
    | 17, hq => have e9 := Option.some.inj hq; subst e9; exact th_sO (r := 57) g10
    | 18, hq => have e9 := Option.some.inj hq; subst e9; exact th_sI (x := 0) (by decide) (by decide)
    | 19, hq => have e9 := Option.some.inj hq; subst e9; exact th_sI (x := 0) (by decide) (by decide)
    | 20, hq => have e9 := Option.some.inj hq; subst e9; exact th_sI (x := 0) (by decide) (by decide)
    | 21, hq => have e9 := Option.some.inj hq; subst e9; exact th_sI (x := 0) (by decide) (by decide)
    | 22, hq => have e9 := Option.some.inj hq; subst e9; exact th_sI (x := 0) (by decide) (by decide)
    | 23, hq => have e9 := Option.some.inj hq; subst e9; exact th_sI (x := 0) (by decide) (by decide)
    | 24, hq => have e9 := Option.some.inj hq; subst e9; exact th_sI (x := 0) (by decide) (by decide)
    | 25, hq => have e9 := Option.some.inj hq; subst e9; exact th_sI (x := 0) (by decide) (by decide)
    | 26, hq => have e9 := Option.some.inj hq; subst e9; exact th_sO (r := 58) g11
    | 27, hq => have e9 := Option.some.inj hq; subst e9; exact th_sI (x := 0) (by decide) (by decide)
    | 28, hq => have e9 := Option.some.inj hq; subst e9; exact th_sI (x := 0) (by decide) (by decide)
    | 29, hq => have e9 := Option.some.inj hq; subst e9; exact th_sO (r := 59) g12
    | 30, hq => have e9 := Option.some.inj hq; subst e9; exact th_sO (r := 60) g13
    | 31, hq => have e9 := Option.some.inj hq; subst e9; exact th_sO (r := 61) g14
    | 32, hq => have e9 := Option.some.inj hq; subst e9; exact th_sO (r := 62) g15
    | 33, hq => have e9 := Option.some.inj hq; subst e9; exact th_sI (x := 0) (by decide) (by decide)
    | 34, hq => have e9 := Option.some.inj hq; subst e9; exact th_sO (r := 63) g16
    | 35, hq => have e9 := Option.some.inj hq; subst e9; exact th_sO (r := 64) g17
    | 36, hq => have e9 := Option.some.inj hq; subst e9; exact th_sO (r := 65) g18
    | 37, hq => have e9 := Option.some.inj hq; subst e9; exact th_sO (r := 66) g19
    | 38, hq => have e9 := Option.some.inj hq; subst e9; exact th_sO (r := 67) g20
    | 39, hq => have e9 := Option.some.inj hq; subst e9; exact th_sI (x := 0) (by decide) (by decide)
    | 40, hq => have e9 := Option.some.inj hq; subst e9; exact th_sI (x := 0) (by decide) (by decide)
    | 41, hq => have e9 := Option.some.inj hq; subst e9; exact th_sI (x := 0) (by decide) (by decide)
    | 42, hq => have e9 := Option.some.inj hq; subst e9; exact th_sI (x := 0) (by decide) (by decide)
    | 43, hq => have e9 := Option.some.inj hq; subst e9; exact th_sI (x := 0) (by decide) (by decide)
    | 44, hq => have e9 := Option.some.inj hq; subst e9; exact th_sI (x := 0) (by decide) (by decide)
    | 45, hq => have e9 := Option.some.inj hq; subst e9; exact th_sI (x := 0) (by decide) (by decide)
    | 46, hq => have e9 := Option.some.inj hq; subst e9; exact th_sO (r := 68) g21
    | 47, hq => have e9 := Option.some.inj hq; subst e9; exact th_sI (x := (-1)) (by decide) (by decide)
    | 48, hq => have e9 := Option.some.inj hq; subst e9; exact th_sI (x := 0) (by decide) (by decide)
    | 49, hq => have e9 := Option.some.inj hq; subst e9; exact th_sI (x := 0) (by decide) (by decide)
    | 50, hq => have e9 := Option.some.inj hq; subst e9; exact th_sI (x := 0) (by decide) (by decide)
    | 51, hq => have e9 := Option.some.inj hq; subst e9; exact th_sI (x := 0) (by decide) (by decide)
    | 52, hq => have e9 := Option.some.inj hq; subst e9; exact th_sI (x := 0) (by decide) (by decide)
    | 53, hq => have e9 := Option.some.inj hq; subst e9; exact th_sO (r := 69) g22
    | 54, hq => have e9 := Option.some.inj hq; subst e9; exact th_sO (r := 70) g23
    | 55, hq => have e9 := Option.some.inj hq; subst e9; exact th_sI (x := (-1)) (by decide) (by decide)
    | 56, hq => have e9 := Option.some.inj hq; subst e9; exact th_sI (x := 0) (by decide) (by decide)
    | n + 57, hq => exact absurd (List.getElem?_eq_some_iff.mp hq).1 (by simp))
  have hY := mb_NY hI hR hm hB hI1
  exact th_vret hC hH hr hlocks hB.1.2.1 ⟨rfl, _, hY, mb_RN hB hY.2.1 (N := 5680) rfl (by decide) rfl rfl rfl rfl rfl rfl rfl rfl rfl, fw, ⟨fun j hj => by obtain ⟨-, cell, q1, -, -, q4⟩ := hB.2.1; exact th_sl_at q1 (q4 j hj), hB.2.2.2⟩⟩ dX12_init_1008
end
section
/-! THE CLAIM OUT OF ONE WALK OF THE LAW'S BODY. Your part is whole_start (and what it stands on); all else here is the same for every law, but numbers. -/
def R_law : String := "CarpetHallsLaw"
def lw_P (b : Addr) (xs : List Int32) (args : Array Value) (s : State) : Prop := args = #[.ref b] ∧ s.IntsAt b xs ∧ xs.length ≤ 384 ∧ (Jvm.Cond.and given_1 narrow_1).before args s = true
def lw_Q (_ : Array Value) (s : State) (o : Outcome) (t : State) : Prop := o = .returned (some (.int 1)) ∧ Framed s o t [] 600000 7302250
def lw_Z (below : List Frame) (a : Array Value) (s : State) : State → Prop := fun t => ∃ o, t.status = .running ∧ Ended t below o ∧ lw_Q a s o t
/-- the law's own end, with 1 on the stack, nothing written that was there before, its room as the claim has it -/
theorem lw_ret {p : Program} {l : Launch} {e : Env} {s : State} {m : MethodId} {below : List Frame} {meth : Method} {c : Code} {b : Nat} (hx : p.tables.exec = Jvm.exec) (hb : c.code = code) (hr : meth.sig.returnType = ret) (hlocks : meth.locks = false) {pc : Nat} {H : Heap} {ls : Array Slot} (hdg : decode code pc = .ok (.ireturn, 1)) : W p l e room_1 s m #[Value.ref b] below meth c H [] 600000 7302250 (lw_Z below #[Value.ref b] s) (F0 m pc ls [.int 1]) := by
  intro T hT X
  obtain ⟨fs, hret, hrun, hended, hW, hframe⟩ := X.leave (v := some (.int 1)) (hlocks := hlocks) (fun h => by rw [hr] at h; cases h)
  have hmeth' : T.vm.method? m = some meth := X.method'
  refine ⟨T.setFrames fs, ?_, .returned (some (.int 1)), hrun, hended, rfl, ⟨_, rfl⟩, hW, hframe⟩
  jvm_step X.here [X.here.top, hx, hb, hdg, hmeth', hr, ret, narrow_b1]
  (try refine ⟨rfl, ?_⟩); (try refine ⟨rfl, ?_⟩)
  first | (intro acts; rw [hret _ acts rfl rfl rfl]) | rw [hret _ _ rfl rfl rfl]
  exact Steps.refl _
/-- what holds at the law's entry: the machine, the code, the tables' words (any of lw_tbl by 'hts w (by decide +kernel)'), the script of L ints xs at the cell b, what the Statement gives of the start (any of its parts by flat_of_before) -/
def lw_At (p : Program) (s : State) (m : MethodId) (meth : Method) (c : Code) (b L : Nat) (xs : Nat → Int32) : Prop :=
  p.tables.exec = Jvm.exec ∧ c.code = code ∧ meth.sig.returnType = ret ∧ c.maxLocals = 4 ∧ s.vm.findClass R_law = some m.cls ∧ (∀ w ∈ lw_tbl, w.before #[Value.ref b] s = true) ∧ va_X b L xs s s.heap ∧ b < s.heap.size ∧ meth.locks = false ∧ (Jvm.Cond.and given_1 narrow_1).before #[Value.ref b] s = true
section LW1
variable {args : Array Value} {s : State} {G : th_G} {Γ : th_Ga} {H : Heap}
theorem cb_l {a b : Cond} (h : (Cond.and a b).before args s = true) : a.before args s = true := by
  rw [Cond.before_and, Bool.and_eq_true] at h
  exact h.1
theorem cb_r {a b : Cond} (h : (Cond.and a b).before args s = true) : b.before args s = true := by
  rw [Cond.before_and, Bool.and_eq_true] at h
  exact h.2
theorem lw_arr {cA comp : ClassId} {kA : Class} {ty : FieldType} (h1 : s.vm.classes[cA]? = some kA) (h2 : kA.kind = .array comp ty) : ArrOfT s cA ty := fun n z => ⟨(fun k h => by cases h), kA, h1, comp, h2⟩
/-- a word of the language, as the Statement gives it -/
theorem lw_zq {own : String} (hA : ∀ a : Nat, a < s.heap.size → ¬ G.2.2 ≤ a) {k : Nat} {tx : String} (bs : List Int32) (hn : bs.length < 8) (hsr : (Cond.stringRef own k tx).before args s = true) (hex : (Cond.exactly (.string own k) "java/lang/String").before args s = true) (hco : (Cond.eq (.field (.string own k) "java/lang/String" "coder" "B") (.int 0)).before args s = true) (har : (Cond.arrayOf (.field (.string own k) "java/lang/String" "value" "[B") .byte).before args s = true) (hle : (Cond.eq (.length (.field (.string own k) "java/lang/String" "value" "[B")) (.int (Int32.ofNat bs.length))).before args s = true) (hel : ∀ j : Nat, j < bs.length → (Cond.eq (.elem (.field (.string own k) "java/lang/String" "value" "[B") (.int (Int32.ofNat j))) (.int (bs.getD j 0))).before args s = true) : ∃ q : Nat, th_Zq G q bs s s.heap ∧ vk_R own k tx q s := by
  obtain ⟨a, c, cA, kA, q1, q2, q3, q4, q5, q6, -⟩ := Cond.exactly_spec (args := args) (first := s) (o := none) (s := s) (idx := []) (t := .string own k) (cls := "java/lang/String") hex
  obtain ⟨t, ht, hT⟩ := va_Tof (f := fun j => .int (bs.getD j 0)) (A := fun q => G.2.2 ≤ q) (Nat.lt_trans hn (by decide)) har (va_eqt hle) (fun j hj => va_eqt (hel j hj)) hA
  exact ⟨a, ⟨hn, t, ⟨cA, q3, q5, by rw [q6]; exact q2, hA a (Array.getElem?_eq_some_iff.mp q3).1⟩, vk_OFof q1 (va_eqt hco) hA, vk_OFof q1 ht hA, hT⟩, vk_R.of hsr q1⟩
theorem lw_zc (hA : ∀ a : Nat, a < s.heap.size → ¬ G.2.2 ≤ a) (l1 : (Cond.laysStatic "java/lang/String" "COMPACT_STRINGS" "Z").before args s = true) (i1 : (Cond.initialized "java/lang/String").before args s = true) (v1 : (Cond.eq (.static "java/lang/String" "COMPACT_STRINGS" "Z") (.int 1)).before args s = true)
    (l2 : (Cond.laysStatic "jdk/internal/util/Preconditions" "SIOOBE_FORMATTER" "Ljava/util/function/BiFunction;").before args s = true) (i2 : (Cond.initialized "jdk/internal/util/Preconditions").before args s = true) (v2 : (Cond.isRef (.static "jdk/internal/util/Preconditions" "SIOOBE_FORMATTER" "Ljava/util/function/BiFunction;")).before args s = true) : th_Zc G s s.heap := by
  refine ⟨va_Zof l1 i1 (va_eqi v1) hA, ?_⟩
  rcases va_Zqof l2 i2 v2 hA (A := fun q => G.2.2 ≤ q) with h | ⟨t, h⟩
  · exact ⟨.null, Or.inl rfl, h⟩
  · exact ⟨.ref t, Or.inr ⟨t, rfl⟩, h⟩
/-- all but one Halls and one reader lose their names -/
def lw_un (Γ : th_Ga) (ax rd : Nat) : th_Ga := fun q => if ((Γ q).1 = 42 ∧ q ≠ ax) ∨ ((Γ q).1 = 20 ∧ q ≠ rd) then (0, 0) else Γ q
theorem lw_un_c {ax rd q r o : Nat} {d : th_De} (h : lw_un Γ ax rd q = (r, o)) (hd : th_ro r = some d) : Γ q = (r, o) ∧ (r = 42 → q = ax) ∧ (r = 20 → q = rd) := by
  unfold lw_un at h
  by_cases w : ((Γ q).1 = 42 ∧ q ≠ ax) ∨ ((Γ q).1 = 20 ∧ q ≠ rd)
  · rw [if_pos w] at h
    cases h
    cases hd
  · rw [if_neg w] at h
    refine ⟨h, fun e => ?_, fun e => ?_⟩
    · by_cases w2 : q = ax
      · exact w2
      · exact absurd (Or.inl ⟨by rw [h]; exact e, w2⟩) w
    · by_cases w2 : q = rd
      · exact w2
      · exact absurd (Or.inr ⟨by rw [h]; exact e, w2⟩) w
theorem lw_un_k {ax rd q r o : Nat} (h : Γ q = (r, o)) (h1 : r = 42 → q = ax) (h2 : r = 20 → q = rd) : lw_un Γ ax rd q = (r, o) := by
  unfold lw_un
  rw [if_neg, h]
  rintro (⟨w1, w2⟩ | ⟨w1, w2⟩)
  · rw [h] at w1
    exact w2 (h1 w1)
  · rw [h] at w1
    exact w2 (h2 w1)
theorem lw_un_n {ax rd q : Nat} (h : th_ro (Γ q).1 = none) : th_ro (lw_un Γ ax rd q).1 = none := by
  unfold lw_un
  split
  · rfl
  · exact h
def th_n2 (q : th_sp) : Bool := !(q.1 == 2 || q.1 == 3 || q.1 == 4) || (q.2.1.toNat != 20 && q.2.1.toNat != 42)
def th_n2D (d : th_De) : Prop := match d with
  | .inl (_, fs) => ∀ (j : Nat) (q : th_sp), fs[j]? = some q → th_n2 q = true
  | .inr (_, _, _, es) => ∀ i : Nat, th_n2 (es i) = true
theorem th_n2_l {k : Nat} {fs : List th_sp} (h : fs.all th_n2 = true) : th_n2D (.inl (k, fs)) := fun j q hq => List.all_eq_true.mp h q (List.mem_of_getElem? hq)
theorem th_n2_0 {q : th_sp} (h : q.1 = 0) : th_n2 q = true := by
  unfold th_n2
  rw [h]
  rfl
theorem lw_un_s {ax rd a : Nat} {q : th_sp} {v : Value} (hg : th_n2 q = true) (h : th_sat Γ a q v) : th_sat (lw_un Γ ax rd) a q v := by
  obtain ⟨t, lo, hi⟩ := q
  unfold th_n2 at hg
  unfold th_sat at h ⊢
  have key : (lo.toNat != 20 && lo.toNat != 42) = true → ∀ b o : Nat, Γ b = (lo.toNat, o) → lw_un Γ ax rd b = (lo.toNat, o) := fun hh b o hb => by
    rw [Bool.and_eq_true, bne_iff_ne, bne_iff_ne] at hh
    exact lw_un_k hb (fun e => absurd e hh.2) (fun e => absurd e hh.1)
  match t, hg, h with
  | 0, _, h => exact h
  | 1, _, h => exact h
  | 2, hg, h =>
    obtain ⟨b, e1, e2⟩ := h
    exact ⟨b, e1, key (by simpa using hg) b 0 e2⟩
  | 3, hg, h =>
    rcases h with h | ⟨b, e1, e2⟩
    · exact Or.inl h
    · exact Or.inr ⟨b, e1, key (by simpa using hg) b 0 e2⟩
  | 4, hg, h =>
    obtain ⟨b, e1, e2⟩ := h
    exact ⟨b, e1, key (by simpa using hg) b a e2⟩
  | n + 5, _, _ => trivial

theorem n2_1 : th_n2D (.inl (0, th_f1)) := th_n2_l (by decide)
theorem n2_2 : th_n2D (.inr (1, 200, 200, fun _ => (1, (-9223372036854775808), 9223372036854775807))) := fun _ => rfl
theorem n2_3 : th_n2D (.inl (1, th_f3)) := th_n2_l (by decide)
theorem n2_4 : th_n2D (.inr (0, 9, 9, fun _ => (0, 0, 12))) := fun _ => rfl
theorem n2_5 : th_n2D (.inr (0, 9, 9, fun _ => (0, (-2147483648), 2147483647))) := fun _ => rfl
theorem n2_6 : th_n2D (.inr (0, 9, 9, fun _ => (0, (-2147483648), 2147483647))) := fun _ => rfl
theorem n2_7 : th_n2D (.inr (0, 9, 9, fun _ => (0, (-2147483648), 2147483647))) := fun _ => rfl
theorem n2_8 : th_n2D (.inr (0, 9, 9, fun _ => (0, (-2147483648), 2147483647))) := fun _ => rfl
theorem n2_9 : th_n2D (.inr (0, 3, 3, fun _ => (0, (-2147483648), 2147483647))) := fun _ => rfl
theorem n2_10 : th_n2D (.inr (0, 12, 12, fun _ => (0, (-2147483648), 2147483647))) := fun _ => rfl
theorem n2_11 : th_n2D (.inl (2, th_f11)) := th_n2_l (by decide)
theorem n2_12 : th_n2D (.inl (3, th_f12)) := th_n2_l (by decide)
theorem n2_13 : th_n2D (.inr (1, 1024, 16384, fun _ => (1, (-9223372036854775808), 9223372036854775807))) := fun _ => rfl
theorem n2_14 : th_n2D (.inr (0, 1024, 16384, fun _ => (0, (-2147483648), 2147483647))) := fun _ => rfl
theorem n2_15 : th_n2D (.inr (0, 1024, 16384, fun _ => (0, (-2147483648), 2147483647))) := fun _ => rfl
theorem n2_16 : th_n2D (.inr (0, 512, 8192, fun _ => (0, 0, 16383))) := fun _ => rfl
theorem n2_17 : th_n2D (.inl (4, th_f17)) := th_n2_l (by decide)
theorem n2_18 : th_n2D (.inr (0, 480, 480, fun _ => (0, (-2147483648), 2147483647))) := fun _ => rfl
theorem n2_19 : th_n2D (.inr (0, 480, 480, fun _ => (0, (-2147483648), 2147483647))) := fun _ => rfl
theorem n2_20 : th_n2D (.inl (5, th_f20)) := th_n2_l (by decide)
theorem n2_21 : th_n2D (.inr (0, 401, 401, fun _ => (0, (-2147483648), 2147483647))) := fun _ => rfl
theorem n2_22 : th_n2D (.inr (0, 401, 401, fun _ => (0, (-2147483648), 2147483647))) := fun _ => rfl
theorem n2_23 : th_n2D (.inl (6, th_f23)) := th_n2_l (by decide)
theorem n2_24 : th_n2D (.inr (1, 64, 64, fun _ => (1, (-9223372036854775808), 9223372036854775807))) := fun _ => rfl
theorem n2_25 : th_n2D (.inr (0, 23, 23, fun _ => (0, (-2147483648), 2147483647))) := fun _ => rfl
theorem n2_26 : th_n2D (.inr (0, 3, 3, fun _ => (0, (-2147483648), 2147483647))) := fun _ => rfl
theorem n2_27 : th_n2D (.inl (7, th_f27)) := th_n2_l (by decide)
theorem n2_28 : th_n2D (.inr (0, 1296, 1296, fun _ => (0, (-2147483648), 2147483647))) := fun _ => rfl
theorem n2_29 : th_n2D (.inr (0, 1296, 1296, fun _ => (0, (-2147483648), 2147483647))) := fun _ => rfl
theorem n2_30 : th_n2D (.inr (0, 1296, 1296, fun _ => (0, (-2147483648), 2147483647))) := fun _ => rfl
theorem n2_31 : th_n2D (.inr (0, 9, 9, fun _ => (0, (-2147483648), 2147483647))) := fun _ => rfl
theorem n2_32 : th_n2D (.inl (8, th_f32)) := th_n2_l (by decide)
theorem n2_33 : th_n2D (.inr (4, 6, 6, fun _ => (2, 39, 0))) := fun _ => rfl
theorem n2_34 : th_n2D (.inr (0, 6, 6, fun _ => (0, (-2147483648), 2147483647))) := fun _ => rfl
theorem n2_35 : th_n2D (.inr (0, 6, 6, fun _ => (0, (-2147483648), 2147483647))) := fun _ => rfl
theorem n2_36 : th_n2D (.inr (0, 6, 6, fun _ => (0, (-2147483648), 2147483647))) := fun _ => rfl
theorem n2_37 : th_n2D (.inl (9, th_f37)) := th_n2_l (by decide)
theorem n2_38 : th_n2D (.inr (0, 400, 400, fun _ => (0, (-2147483648), 2147483647))) := fun _ => rfl
theorem n2_39 : th_n2D (.inl (10, th_f39)) := th_n2_l (by decide)
theorem n2_40 : th_n2D (.inr (0, 400, 400, fun _ => (0, 0, 2147483647))) := fun _ => rfl
theorem n2_41 : th_n2D (.inr (0, 96, 96, th_esm)) := fun i => th_n2_0 (th_esm1 i)
theorem n2_43 : th_n2D (.inr (5, 2, 2, fun _ => (2, 32, 0))) := fun _ => rfl
theorem n2_44 : th_n2D (.inr (2, 2, 2, fun _ => (0, 0, 1))) := fun _ => rfl
theorem n2_45 : th_n2D (.inr (0, 5, 5, fun _ => (0, (-2147483648), 2147483647))) := fun _ => rfl
theorem n2_46 : th_n2D (.inl (12, th_f46)) := th_n2_l (by decide)
theorem n2_47 : th_n2D (.inr (0, 7, 7, fun _ => (0, (-2147483648), 2147483647))) := fun _ => rfl
theorem n2_48 : th_n2D (.inr (0, 5680, 5680, th_esk)) := fun i => th_n2_0 (th_esk1 i)
theorem n2_49 : th_n2D (.inr (0, 11360, 11360, th_esi)) := fun i => th_n2_0 (th_esi1 i)
theorem n2_50 : th_n2D (.inr (2, 2, 2, fun _ => (0, 0, 1))) := fun _ => rfl
theorem n2_51 : th_n2D (.inr (0, 58, 58, fun _ => (0, (-2147483648), 2147483647))) := fun _ => rfl
theorem n2_52 : th_n2D (.inr (3, 127, 127, th_esw)) := fun _ => rfl
theorem n2_53 : th_n2D (.inr (3, 400, 400, fun _ => (0, (-128), 127))) := fun _ => rfl
theorem n2_54 : th_n2D (.inr (0, 5, 5, fun _ => (0, (-2147483648), 2147483647))) := fun _ => rfl
theorem n2_55 : th_n2D (.inr (0, 401, 401, fun _ => (0, (-2147483648), 2147483647))) := fun _ => rfl
theorem n2_56 : th_n2D (.inr (0, 401, 401, fun _ => (0, (-2147483648), 2147483647))) := fun _ => rfl
theorem n2_57 : th_n2D (.inr (0, 401, 401, fun _ => (0, 0, 400))) := fun _ => rfl
theorem n2_58 : th_n2D (.inr (0, 8, 8, fun _ => (0, (-2147483648), 2147483647))) := fun _ => rfl
theorem n2_59 : th_n2D (.inr (0, 12, 12, fun _ => (0, (-2147483648), 2147483647))) := fun _ => rfl
theorem n2_60 : th_n2D (.inr (0, 9, 9, fun _ => (0, (-2147483648), 2147483647))) := fun _ => rfl
theorem n2_61 : th_n2D (.inr (0, 480, 480, fun _ => (0, (-2147483648), 2147483647))) := fun _ => rfl
theorem n2_62 : th_n2D (.inr (0, 480, 480, fun _ => (0, (-2147483648), 2147483647))) := fun _ => rfl
theorem n2_63 : th_n2D (.inr (0, 1296, 1296, fun _ => (0, (-2147483648), 2147483647))) := fun _ => rfl
theorem n2_64 : th_n2D (.inr (0, 9, 9, fun _ => (0, 0, 8))) := fun _ => rfl
theorem n2_65 : th_n2D (.inr (0, 9, 9, fun _ => (0, 0, 143))) := fun _ => rfl
theorem n2_66 : th_n2D (.inr (0, 9, 9, fun _ => (0, (-2147483648), 2147483647))) := fun _ => rfl
theorem n2_67 : th_n2D (.inr (0, 1296, 1296, fun _ => (0, (-2147483648), 2147483647))) := fun _ => rfl
theorem n2_68 : th_n2D (.inr (1, 21, 21, fun _ => (1, (-9223372036854775808), 9223372036854775807))) := fun _ => rfl
theorem n2_69 : th_n2D (.inr (1, 3, 3, fun _ => (1, (-9223372036854775808), 9223372036854775807))) := fun _ => rfl
theorem n2_70 : th_n2D (.inr (0, 29, 29, fun _ => (0, (-2147483648), 2147483647))) := fun _ => rfl
theorem n2_71 : th_n2D (.inl (0, th_f71)) := th_n2_l (by decide)
theorem n2_72 : th_n2D (.inl (1, th_f72)) := th_n2_l (by decide)
theorem n2_73 : th_n2D (.inl (2, th_f73)) := th_n2_l (by decide)
theorem n2_74 : th_n2D (.inl (3, th_f74)) := th_n2_l (by decide)
theorem n2_75 : th_n2D (.inl (4, th_f75)) := th_n2_l (by decide)
theorem n2_76 : th_n2D (.inl (5, th_f76)) := th_n2_l (by decide)
theorem n2_77 : th_n2D (.inl (6, th_f77)) := th_n2_l (by decide)
theorem n2_78 : th_n2D (.inl (7, th_f78)) := th_n2_l (by decide)
theorem n2_79 : th_n2D (.inl (8, th_f79)) := th_n2_l (by decide)
theorem n2_80 : th_n2D (.inl (9, th_f80)) := th_n2_l (by decide)
theorem n2_81 : th_n2D (.inl (10, th_f81)) := th_n2_l (by decide)
theorem n2_82 : th_n2D (.inl (11, th_f82)) := th_n2_l (by decide)
theorem n2_83 : th_n2D (.inl (12, th_f83)) := th_n2_l (by decide)
theorem n2_84 : th_n2D (.inr (4, 6, 6, fun _ => (5, 0, 0))) := fun _ => rfl
theorem n2_85 : th_n2D (.inr (5, 2, 2, fun _ => (5, 0, 0))) := fun _ => rfl
theorem n2_86 : th_n2D (.inr (0, 5680, 5680, fun _ => (5, 0, 0))) := fun _ => rfl
theorem n2_87 : th_n2D (.inr (0, 11360, 11360, fun _ => (5, 0, 0))) := fun _ => rfl
theorem n2_88 : th_n2D (.inr (3, 127, 127, fun _ => (5, 0, 0))) := fun _ => rfl
theorem th_n2_all : ∀ (r : Nat) (d : th_De), r ≠ 42 → th_ro r = some d → th_n2D d
  | 0, _, _, h => by cases h
  | 1, _, w, h => by cases ro_1.symm.trans h; exact n2_1
  | 2, _, w, h => by cases ro_2.symm.trans h; exact n2_2
  | 3, _, w, h => by cases ro_3.symm.trans h; exact n2_3
  | 4, _, w, h => by cases ro_4.symm.trans h; exact n2_4
  | 5, _, w, h => by cases ro_5.symm.trans h; exact n2_5
  | 6, _, w, h => by cases ro_6.symm.trans h; exact n2_6
  | 7, _, w, h => by cases ro_7.symm.trans h; exact n2_7
  | 8, _, w, h => by cases ro_8.symm.trans h; exact n2_8
  | 9, _, w, h => by cases ro_9.symm.trans h; exact n2_9
  | 10, _, w, h => by cases ro_10.symm.trans h; exact n2_10
  | 11, _, w, h => by cases ro_11.symm.trans h; exact n2_11
  | 12, _, w, h => by cases ro_12.symm.trans h; exact n2_12
  | 13, _, w, h => by cases ro_13.symm.trans h; exact n2_13
  | 14, _, w, h => by cases ro_14.symm.trans h; exact n2_14
  | 15, _, w, h => by cases ro_15.symm.trans h; exact n2_15
  | 16, _, w, h => by cases ro_16.symm.trans h; exact n2_16
  | 17, _, w, h => by cases ro_17.symm.trans h; exact n2_17
  | 18, _, w, h => by cases ro_18.symm.trans h; exact n2_18
  | 19, _, w, h => by cases ro_19.symm.trans h; exact n2_19
  | 20, _, w, h => by cases ro_20.symm.trans h; exact n2_20
  | 21, _, w, h => by cases ro_21.symm.trans h; exact n2_21
  | 22, _, w, h => by cases ro_22.symm.trans h; exact n2_22
  | 23, _, w, h => by cases ro_23.symm.trans h; exact n2_23
  | 24, _, w, h => by cases ro_24.symm.trans h; exact n2_24
  | 25, _, w, h => by cases ro_25.symm.trans h; exact n2_25
  | 26, _, w, h => by cases ro_26.symm.trans h; exact n2_26
  | 27, _, w, h => by cases ro_27.symm.trans h; exact n2_27
  | 28, _, w, h => by cases ro_28.symm.trans h; exact n2_28
  | 29, _, w, h => by cases ro_29.symm.trans h; exact n2_29
  | 30, _, w, h => by cases ro_30.symm.trans h; exact n2_30
  | 31, _, w, h => by cases ro_31.symm.trans h; exact n2_31
  | 32, _, w, h => by cases ro_32.symm.trans h; exact n2_32
  | 33, _, w, h => by cases ro_33.symm.trans h; exact n2_33
  | 34, _, w, h => by cases ro_34.symm.trans h; exact n2_34
  | 35, _, w, h => by cases ro_35.symm.trans h; exact n2_35
  | 36, _, w, h => by cases ro_36.symm.trans h; exact n2_36
  | 37, _, w, h => by cases ro_37.symm.trans h; exact n2_37
  | 38, _, w, h => by cases ro_38.symm.trans h; exact n2_38
  | 39, _, w, h => by cases ro_39.symm.trans h; exact n2_39
  | 40, _, w, h => by cases ro_40.symm.trans h; exact n2_40
  | 41, _, w, h => by cases ro_41.symm.trans h; exact n2_41
  | 42, _, w, h => absurd rfl w
  | 43, _, w, h => by cases ro_43.symm.trans h; exact n2_43
  | 44, _, w, h => by cases ro_44.symm.trans h; exact n2_44
  | 45, _, w, h => by cases ro_45.symm.trans h; exact n2_45
  | 46, _, w, h => by cases ro_46.symm.trans h; exact n2_46
  | 47, _, w, h => by cases ro_47.symm.trans h; exact n2_47
  | 48, _, w, h => by cases ro_48.symm.trans h; exact n2_48
  | 49, _, w, h => by cases ro_49.symm.trans h; exact n2_49
  | 50, _, w, h => by cases ro_50.symm.trans h; exact n2_50
  | 51, _, w, h => by cases ro_51.symm.trans h; exact n2_51
  | 52, _, w, h => by cases ro_52.symm.trans h; exact n2_52
  | 53, _, w, h => by cases ro_53.symm.trans h; exact n2_53
  | 54, _, w, h => by cases ro_54.symm.trans h; exact n2_54
  | 55, _, w, h => by cases ro_55.symm.trans h; exact n2_55
  | 56, _, w, h => by cases ro_56.symm.trans h; exact n2_56
  | 57, _, w, h => by cases ro_57.symm.trans h; exact n2_57
  | 58, _, w, h => by cases ro_58.symm.trans h; exact n2_58
  | 59, _, w, h => by cases ro_59.symm.trans h; exact n2_59
  | 60, _, w, h => by cases ro_60.symm.trans h; exact n2_60
  | 61, _, w, h => by cases ro_61.symm.trans h; exact n2_61
  | 62, _, w, h => by cases ro_62.symm.trans h; exact n2_62
  | 63, _, w, h => by cases ro_63.symm.trans h; exact n2_63
  | 64, _, w, h => by cases ro_64.symm.trans h; exact n2_64
  | 65, _, w, h => by cases ro_65.symm.trans h; exact n2_65
  | 66, _, w, h => by cases ro_66.symm.trans h; exact n2_66
  | 67, _, w, h => by cases ro_67.symm.trans h; exact n2_67
  | 68, _, w, h => by cases ro_68.symm.trans h; exact n2_68
  | 69, _, w, h => by cases ro_69.symm.trans h; exact n2_69
  | 70, _, w, h => by cases ro_70.symm.trans h; exact n2_70
  | 71, _, w, h => by cases ro_71.symm.trans h; exact n2_71
  | 72, _, w, h => by cases ro_72.symm.trans h; exact n2_72
  | 73, _, w, h => by cases ro_73.symm.trans h; exact n2_73
  | 74, _, w, h => by cases ro_74.symm.trans h; exact n2_74
  | 75, _, w, h => by cases ro_75.symm.trans h; exact n2_75
  | 76, _, w, h => by cases ro_76.symm.trans h; exact n2_76
  | 77, _, w, h => by cases ro_77.symm.trans h; exact n2_77
  | 78, _, w, h => by cases ro_78.symm.trans h; exact n2_78
  | 79, _, w, h => by cases ro_79.symm.trans h; exact n2_79
  | 80, _, w, h => by cases ro_80.symm.trans h; exact n2_80
  | 81, _, w, h => by cases ro_81.symm.trans h; exact n2_81
  | 82, _, w, h => by cases ro_82.symm.trans h; exact n2_82
  | 83, _, w, h => by cases ro_83.symm.trans h; exact n2_83
  | 84, _, w, h => by cases ro_84.symm.trans h; exact n2_84
  | 85, _, w, h => by cases ro_85.symm.trans h; exact n2_85
  | 86, _, w, h => by cases ro_86.symm.trans h; exact n2_86
  | 87, _, w, h => by cases ro_87.symm.trans h; exact n2_87
  | 88, _, w, h => by cases ro_88.symm.trans h; exact n2_88
  | n + 89, _, _, h => by have h2 : th_rl[n + 88]? = none := List.getElem?_eq_none (Nat.le_add_left 88 n); cases h2.symm.trans h
theorem lw_f42 {j : Nat} {q : th_sp} (hj : j ≠ 6) (hq : th_f42[j]? = some q) : th_n2 q = true := by
  match j, hj, hq with
  | 0, hj, hq => have e9 := Option.some.inj hq; subst e9; decide
  | 1, hj, hq => have e9 := Option.some.inj hq; subst e9; decide
  | 2, hj, hq => have e9 := Option.some.inj hq; subst e9; decide
  | 3, hj, hq => have e9 := Option.some.inj hq; subst e9; decide
  | 4, hj, hq => have e9 := Option.some.inj hq; subst e9; decide
  | 5, hj, hq => have e9 := Option.some.inj hq; subst e9; decide
  | 6, hj, hq => exact absurd rfl hj
  | 7, hj, hq => have e9 := Option.some.inj hq; subst e9; decide
  | 8, hj, hq => have e9 := Option.some.inj hq; subst e9; decide
  | 9, hj, hq => have e9 := Option.some.inj hq; subst e9; decide
  | 10, hj, hq => have e9 := Option.some.inj hq; subst e9; decide
  | 11, hj, hq => have e9 := Option.some.inj hq; subst e9; decide
  | 12, hj, hq => have e9 := Option.some.inj hq; subst e9; decide
  | 13, hj, hq => have e9 := Option.some.inj hq; subst e9; decide
  | 14, hj, hq => have e9 := Option.some.inj hq; subst e9; decide
  | 15, hj, hq => have e9 := Option.some.inj hq; subst e9; decide
  | 16, hj, hq => have e9 := Option.some.inj hq; subst e9; decide
  | 17, hj, hq => have e9 := Option.some.inj hq; subst e9; decide
  | n + 18, _, hq => exact absurd (List.getElem?_eq_some_iff.mp hq).1 (by simp)
/-- one Halls, one reader: the types hold as they did -/
theorem lw_un_I {ax rd : Nat} (hI : th_I G Γ H) (hax : Γ ax = (42, 0)) (hrd : th_sl H ax (G.1.2 11 6) = .ref rd) (hr : Γ rd = (20, 0)) : th_I G (lw_un Γ ax rd) H := by
  intro a r o d hg hd
  obtain ⟨e1, e2, e3⟩ := lw_un_c hg hd
  obtain ⟨g1, g2⟩ := hI a r o d e1 hd
  refine ⟨g1, ?_⟩
  by_cases w : r = 42
  · have ea := e2 w
    subst w ea
    cases ro_42.symm.trans hd
    refine ⟨g2.1, fun j q hq => ?_⟩
    by_cases w6 : j = 6
    · subst w6
      have e9 := Option.some.inj hq
      subst e9
      rw [hrd]
      exact th_sR (lw_un_k hr (fun e => by cases e) (fun _ => rfl))
    · exact lw_un_s (lw_f42 w6 hq) (g2.2 j q hq)
  · have hn := th_n2_all r d w hd
    rcases d with ⟨k, fs⟩ | ⟨t, n1, n2, es⟩
    · exact ⟨g2.1, fun j q hq => lw_un_s (hn j q hq) (g2.2 j q hq)⟩
    · obtain ⟨n, h1, h2, h3, h4⟩ := g2
      exact ⟨n, h1, h2, h3, fun i hi => lw_un_s (hn i) (h4 i hi)⟩
theorem lw_un_R {ax rd : Nat} (hR : th_RC G Γ H) : th_RC G (lw_un Γ ax rd) H := by
  obtain ⟨r1, r2, r3, r4⟩ := hR
  refine ⟨fun a o ha => r1 a o (lw_un_c ha ro_3).1, fun b o hb => r2 b o (hb.elim (fun w => Or.inl (lw_un_c w ro_18).1) (fun w => Or.inr (lw_un_c w ro_19).1)), fun a o ha => ?_, fun a a' o o' ha ha' => r4 a a' o o' (lw_un_c ha ro_12).1 (lw_un_c ha' ro_12).1⟩
  obtain ⟨n, b1, b2, b3, b4, hn, m0, m1, m2, m3, m4, hd, ⟨f1, p1, q1, s1⟩, ⟨f2, p2, q2, s2⟩, ⟨f3, p3, q3, s3⟩, ⟨f4, ⟨p4, q4, s4⟩, r5⟩, u, mu, hu5⟩ := r3 a o (lw_un_c ha ro_12).1
  exact ⟨n, b1, b2, b3, b4, hn, m0, m1, m2, m3, m4, hd, ⟨f1, p1, lw_un_n q1, s1⟩, ⟨f2, p2, lw_un_n q2, s2⟩, ⟨f3, p3, lw_un_n q3, s3⟩, ⟨f4, ⟨p4, lw_un_n q4, s4⟩, r5⟩, u, mu, hu5⟩
theorem lw_un_q {ax rd a a1 o o1 : Nat} (h : lw_un Γ ax rd a = (20, o)) (h1 : lw_un Γ ax rd a1 = (20, o1)) : a = a1 := ((lw_un_c h ro_20).2.2 rfl).trans ((lw_un_c h1 ro_20).2.2 rfl).symm
/-- what a shared field names -/
theorem lw_fr (hI : th_I G Γ H) {a r o k j r2 : Nat} {fs : List th_sp} {hi : Int} (ha : Γ a = (r, o)) (hr : th_ro r = some (.inl (k, fs))) (hq : fs[j]? = some (2, (r2 : Int), hi)) : ∃ b : Nat, th_sl H a (G.1.2 k j) = .ref b ∧ Γ b = (r2, 0) := by
  obtain ⟨-, -, h⟩ := hI a r o _ ha hr
  obtain ⟨b, h1, h2⟩ := h j _ hq
  exact ⟨b, h1, by simpa using h2⟩
theorem lw_bits {ax : Nat} (hI : th_I G Γ H) (hR : th_RC G Γ H) (hax : Γ ax = (42, 0)) : ∃ u : Nat, th_bits G Γ H u := by
  obtain ⟨b, -, hb⟩ := lw_fr hI hax ro_42 (j := 11) (r2 := 27) rfl
  obtain ⟨d, -, hd⟩ := lw_fr hI hb ro_27 (j := 0) (r2 := 12) rfl
  obtain ⟨n, b1, b2, b3, b4, hme⟩ := hR.2.2.1 d 0 hd
  exact ⟨n, th_bits_me hd hme⟩
theorem lw_pcb {u : Nat} (h : u = 10 ∨ u = 12 ∨ u = 14) : th_pc u ≤ 8 ∧ th_pq u ≤ 71680 := by
  rcases h with rfl | rfl | rfl <;> decide
/-- no name at all -/
def lw_g0 : th_Ga := fun _ => (0, 0)
theorem lw_g0c {a r o : Nat} (h : lw_g0 a = (r, o)) : r = 0 := (Prod.mk.inj h).1.symm
end LW1
section LW2
variable {p : Program} {l : Launch} {e : Env} {R : Room} {s : State} {m : MethodId} {args : Array Value} {below : List Frame} {meth : Method} {c : Code} {H H0 H1 : Heap} {locs : List Loc} {cells slots : Nat} {Q : State → Prop}
variable {cc : ByteArray} {pc : Nat} {ls : Array Slot} {rest : List Value} {G : th_G} {Γ Γ0 Γ1 : th_Ga}
/-- a new object, where none is under way -/
theorem tl_new {nL : Nat} {own C : String} (hC : th_C p s m args c cc nL own G) {k : Nat} {T : u_T} {N : Nat} {ty : Nat → FieldType} (hcf : th_CF k C T N ty) (hI : th_I G Γ H) (hS : va_S (fun q => G.2.2 ≤ q) H0 H locs) {index : Nat} (hcl : Cond.classLink own index C ∈ th_tb) (hinst : Cond.instantiable C N ∈ th_tb) (hini : Cond.initialized C ∈ th_tb) (hcells : cells + 1 ≤ R.cells) (hslots : slots + N ≤ R.slots) (hdg : decode cc pc = .ok (.new index, 3))
    (kk : ∀ (H1 : Heap), H1.size = H.size + 1 → (∀ q, q ≠ H.size → H1[q]? = H[q]?) → th_I G Γ H1 → va_S (fun q => G.2.2 ≤ q) H0 H1 locs → th_OB G Γ H1 H.size k N (fun j => defaultValue (ty j)) → W p l e R s m args below meth c H1 locs (cells + 1) (slots + N) Q (F0 m (pc + 3) ls (.ref H.size :: rest))) : W p l e R s m args below meth c H locs cells slots Q (F0 m pc ls rest) := by
  obtain ⟨hx, hb, -, hown, hts, hK, -⟩ := hC
  obtain ⟨hc, hin, hty, hnm, hdc⟩ := hcf
  have hKn := hK.1 k _ hc
  refine W.newcK hx hb hown (hts _ hcl) (hts _ hinst) (hts _ hini) rfl hdg hcells hslots hKn.2.1 rfl fun H1 kC hkC e1 z1 o1 => ?_
  have oq : ∀ q, q ≠ H.size → H1[q]? = H[q]? := fun q hq => by
    by_cases h : q < H.size
    · exact o1 q h
    · rw [Array.getElem?_eq_none (by omega), Array.getElem?_eq_none (by omega)]
  have hun : th_ro (Γ H.size).1 = none := tc_un hI (Nat.le_refl _)
  exact kk H1 z1 oq (tc_Iold hI hun (fun q _ hq => oq q hq)) ⟨Nat.le_trans hS.1 (by omega), fun q h1 h2 => (o1 q (Nat.lt_of_lt_of_le h1 hS.1)).trans (hS.2.1 q h1 h2), hS.2.2⟩ ⟨hun, u_born ty hts hin hKn hkC e1 hty⟩
end LW2

theorem kl_9 : Cond.methodLink RL 9 yX11_init ∈ th_tb := kw_24
theorem kl_12 : Cond.methodLink RL 12 yX12_init ∈ th_tb := kw_1222
theorem kl_13 : Cond.methodLink RL 13 yX11_carpet ∈ th_tb := kw_432
theorem kl_17 : Cond.methodLink RL 17 yX12_carpet ∈ th_tb := kw_1421
theorem kl_18 : Cond.methodLink RL 18 yX11_of ∈ th_tb := kw_448
theorem kl_22 : Cond.methodLink RL 22 yX12_of ∈ th_tb := kw_1443
theorem kl_23 : Cond.methodLink RL 23 yX11_hall ∈ th_tb := kw_507
theorem kl_26 : Cond.methodLink RL 26 yX12_hall ∈ th_tb := kw_1520
theorem kl_27 : Cond.methodLink RL 27 yX11_at ∈ th_tb := kw_516
theorem kl_30 : Cond.methodLink RL 30 yX12_at ∈ th_tb := kw_1528
theorem kl_31 : Cond.methodLink RL 31 yX11_asks ∈ th_tb := kw_524
theorem kl_35 : Cond.methodLink RL 35 yX12_asks ∈ th_tb := kw_1536
theorem kl_36 : Cond.methodLink RL 36 yX11_terms ∈ th_tb := kw_551
theorem kl_39 : Cond.methodLink RL 39 yX12_terms ∈ th_tb := kw_1571
theorem kl_40 : Cond.methodLink RL 40 yX11_feed ∈ th_tb := kw_558
theorem kl_44 : Cond.methodLink RL 44 yX12_feed ∈ th_tb := kw_1589
theorem kl_45 : Cond.methodLink RL 45 yX11_end ∈ th_tb := kw_566
theorem kl_49 : Cond.methodLink RL 49 yX12_end ∈ th_tb := kw_1593
theorem kl_50 : Cond.methodLink RL 50 yX11_row ∈ th_tb := kw_570
theorem kl_54 : Cond.methodLink RL 54 yX12_row ∈ th_tb := kw_1581
theorem kl_55 : Cond.methodLink RL 55 yX11_fluff ∈ th_tb := kw_574
theorem kl_58 : Cond.methodLink RL 58 yX12_fluff ∈ th_tb := kw_1585
theorem kl_59 : Cond.methodLink RL 59 yX11_law ∈ th_tb := kw_578
theorem kl_62 : Cond.methodLink RL 62 yX12_law ∈ th_tb := kw_1597
theorem kl_63 : Cond.methodLink RL 63 yX11_orders ∈ th_tb := kw_772
theorem kl_66 : Cond.methodLink RL 66 yX12_orders ∈ th_tb := kw_1910
theorem kl_67 : Cond.methodLink RL 67 yX11_fault ∈ th_tb := kw_846
theorem kl_70 : Cond.methodLink RL 70 yX12_fault ∈ th_tb := kw_1692
theorem kl_71 : Cond.methodLink RL 71 yX11_stopped ∈ th_tb := kw_850
theorem kl_74 : Cond.methodLink RL 74 yX12_stopped ∈ th_tb := kw_1906
theorem kl_75 : Cond.methodLink RL 75 yX11_force ∈ th_tb := kw_854
theorem kl_78 : Cond.methodLink RL 78 yX12_force ∈ th_tb := kw_1696
theorem kl_79 : Cond.methodLink RL 79 yX11_lay ∈ th_tb := kw_859
theorem kl_82 : Cond.methodLink RL 82 yX12_lay ∈ th_tb := kw_1719
theorem kl_83 : Cond.methodLink RL 83 yX11_roll ∈ th_tb := kw_863
theorem kl_86 : Cond.methodLink RL 86 yX12_roll ∈ th_tb := kw_1742
theorem kl_87 : Cond.methodLink RL 87 yX11_mirror ∈ th_tb := kw_867
theorem kl_90 : Cond.methodLink RL 90 yX12_mirror ∈ th_tb := kw_1750
theorem kl_91 : Cond.methodLink RL 91 yX11_pass ∈ th_tb := kw_871
theorem kl_94 : Cond.methodLink RL 94 yX12_pass ∈ th_tb := kw_1758
theorem kl_95 : Cond.methodLink RL 95 yX11_undo ∈ th_tb := kw_875
theorem kl_98 : Cond.methodLink RL 98 yX12_undo ∈ th_tb := kw_1715
theorem kl_99 : Cond.methodLink RL 99 yX11_bare ∈ th_tb := kw_883
theorem kl_102 : Cond.methodLink RL 102 yX12_bare ∈ th_tb := kw_1704
theorem kl_103 : Cond.methodLink RL 103 yX11_fill ∈ th_tb := kw_898
theorem kl_106 : Cond.methodLink RL 106 yX12_fill ∈ th_tb := kw_1773
theorem kl_107 : Cond.methodLink RL 107 yX11_ways ∈ th_tb := kw_995
theorem kl_110 : Cond.methodLink RL 110 yX12_ways ∈ th_tb := kw_1818
theorem kl_111 : Cond.methodLink RL 111 yX11_cheapest ∈ th_tb := kw_1000
theorem kl_114 : Cond.methodLink RL 114 yX12_cheapest ∈ th_tb := kw_1822
theorem kl_115 : Cond.methodLink RL 115 yX11_halls ∈ th_tb := kw_1008
theorem kl_118 : Cond.methodLink RL 118 yX12_halls ∈ th_tb := kw_1839
theorem kl_119 : Cond.methodLink RL 119 yX11_inner ∈ th_tb := kw_1021
theorem kl_122 : Cond.methodLink RL 122 yX12_inner ∈ th_tb := kw_1847
theorem kl_123 : Cond.methodLink RL 123 yX11_crosses ∈ th_tb := kw_1040
theorem kl_126 : Cond.methodLink RL 126 yX12_crosses ∈ th_tb := kw_1855
theorem kl_127 : Cond.methodLink RL 127 yX11_currents ∈ th_tb := kw_1052
theorem kl_130 : Cond.methodLink RL 130 yX12_currents ∈ th_tb := kw_1863
theorem kl_131 : Cond.methodLink RL 131 yX11_fitting ∈ th_tb := kw_1060
theorem kl_134 : Cond.methodLink RL 134 yX12_fitting ∈ th_tb := kw_1867
theorem kl_135 : Cond.methodLink RL 135 yX11_alike ∈ th_tb := kw_1068
theorem kl_138 : Cond.methodLink RL 138 yX12_alike ∈ th_tb := kw_1871
theorem kl_139 : Cond.methodLink RL 139 yX11_free ∈ th_tb := kw_1076
theorem kl_142 : Cond.methodLink RL 142 yX12_free ∈ th_tb := kw_1831
theorem kl_143 : Cond.methodLink RL 143 yX11_seen ∈ th_tb := kw_1084
theorem kl_146 : Cond.methodLink RL 146 yX12_seen ∈ th_tb := kw_1875
theorem kl_147 : Cond.methodLink RL 147 yX11_forget ∈ th_tb := kw_1088
theorem kl_150 : Cond.methodLink RL 150 yX12_forget ∈ th_tb := kw_1879
theorem kl_151 : Cond.methodLink RL 151 yX11_floors ∈ th_tb := kw_1092
theorem kl_154 : Cond.methodLink RL 154 yX12_floors ∈ th_tb := kw_1883
theorem kl_155 : Cond.methodLink RL 155 yX11_look ∈ th_tb := kw_1101
theorem kl_158 : Cond.methodLink RL 158 yX12_look ∈ th_tb := kw_1891
theorem kl_159 : Cond.methodLink RL 159 yX11_few ∈ th_tb := kw_1148
theorem kl_163 : Cond.methodLink RL 163 yX12_few ∈ th_tb := kw_1899
theorem kl_164 : Cond.methodLink RL 164 yX11_compare ∈ th_tb := kw_1168
theorem kl_167 : Cond.methodLink RL 167 yX12_compare ∈ th_tb := kw_1826
theorem kl_168 : Cond.methodLink RL 168 yX11_years ∈ th_tb := kw_1172
theorem kl_171 : Cond.methodLink RL 171 yX12_years ∈ th_tb := kw_1938
theorem kl_172 : Cond.methodLink RL 172 yX11_drawn ∈ th_tb := kw_1185
theorem kl_175 : Cond.methodLink RL 175 yX12_drawn ∈ th_tb := kw_1949
theorem kl_176 : Cond.methodLink RL 176 yX11_image ∈ th_tb := kw_1189
theorem kl_179 : Cond.methodLink RL 179 yX12_image ∈ th_tb := kw_1398
theorem kl_180 : Cond.methodLink RL 180 yX11_back ∈ th_tb := kw_1204
theorem kl_183 : Cond.methodLink RL 183 yX12_back ∈ th_tb := kw_1413
theorem kl_184 : Cond.methodLink RL 184 yX11_count ∈ th_tb := kw_1208
theorem kl_187 : Cond.methodLink RL 187 yX12_count ∈ th_tb := kw_1953
theorem kl_188 : Cond.methodLink RL 188 yX11_status ∈ th_tb := kw_1216
theorem kl_191 : Cond.methodLink RL 191 yX12_status ∈ th_tb := kw_1961
theorem lw_K {args : Array Value} {s : State} (hts : ∀ w ∈ lw_tbl, w.before args s = true) (n0 : Nat) : ∃ G : th_G, G.2.2 = n0 ∧ th_K G s := by
  have ht : ∀ w ∈ th_tb, w.before args s = true := fun w hw => hts w (List.mem_filter.mp hw).1
  obtain ⟨c0, i0, k0⟩ := u_known (C := RX0) (T := TX0) (N := 1) (n := 1) ht cf_X0.2.1 (ht _ kw_368)
  obtain ⟨c1, i1, k1⟩ := u_known (C := RX1) (T := TX1) (N := 11) (n := 11) ht cf_X1.2.1 (ht _ kw_37)
  obtain ⟨c2, i2, k2⟩ := u_known (C := RX2) (T := TX2) (N := 1) (n := 1) ht cf_X2.2.1 (ht _ kw_248)
  obtain ⟨c3, i3, k3⟩ := u_known (C := RX3) (T := TX3) (N := 7) (n := 7) ht cf_X3.2.1 (ht _ kw_291)
  obtain ⟨c4, i4, k4⟩ := u_known (C := RX4) (T := TX4) (N := 5) (n := 5) ht cf_X4.2.1 (ht _ kw_260)
  obtain ⟨c5, i5, k5⟩ := u_known (C := RX5) (T := TX5) (N := 9) (n := 9) ht cf_X5.2.1 (ht _ kw_189)
  obtain ⟨c6, i6, k6⟩ := u_known (C := RX6) (T := TX6) (N := 4) (n := 4) ht cf_X6.2.1 (ht _ kw_225)
  obtain ⟨c7, i7, k7⟩ := u_known (C := RX7) (T := TX7) (N := 14) (n := 14) ht cf_X7.2.1 (ht _ kw_285)
  obtain ⟨c8, i8, k8⟩ := u_known (C := RX8) (T := TX8) (N := 8) (n := 8) ht cf_X8.2.1 (ht _ kw_31)
  obtain ⟨c9, i9, k9⟩ := u_known (C := RX9) (T := TX9) (N := 2) (n := 2) ht cf_X9.2.1 (ht _ kw_171)
  obtain ⟨c10, i10, k10⟩ := u_known (C := RX10) (T := TX10) (N := 4) (n := 4) ht cf_X10.2.1 (ht _ kw_107)
  obtain ⟨c11, i11, k11⟩ := u_known (C := RX11) (T := TX11) (N := 18) (n := 18) ht cf_X11.2.1 (ht _ kw_23)
  obtain ⟨c12, i12, k12⟩ := u_known (C := RX12) (T := TX12) (N := 57) (n := 57) ht cf_X12.2.1 (ht _ kw_1221)
  obtain ⟨a0, x0, y0, f0, g0, h0⟩ := Cond.arrayClass_spec (ht _ kw_104)
  obtain ⟨a1, x1, y1, f1, g1, h1⟩ := Cond.arrayClass_spec (ht _ kw_246)
  obtain ⟨a2, x2, y2, f2, g2, h2⟩ := Cond.arrayClass_spec (ht _ kw_187)
  obtain ⟨a3, x3, y3, f3, g3, h3⟩ := Cond.arrayClass_spec (ht _ kw_771)
  have o4 : (Cond.arrayOver (.object "CarpetHalls$Text")).before args s = true := hts _ kw_106
  obtain ⟨y4, a4, x4, e4, -, g4, h4, f4⟩ := Cond.arrayOver_spec o4
  have o5 : (Cond.arrayOver (.object "CarpetHalls$Stand")).before args s = true := hts _ kw_167
  obtain ⟨y5, a5, x5, e5, -, g5, h5, f5⟩ := Cond.arrayOver_spec o5
  refine ⟨((fun k => [c0, c1, c2, c3, c4, c5, c6, c7, c8, c9, c10, c11, c12].getD k c0, fun k => [i0, i1, i2, i3, i4, i5, i6, i7, i8, i9, i10, i11, i12].getD k i0), fun k => [a0, a1, a2, a3, a4, a5].getD k a0, n0), rfl, ⟨fun k q hq => ?_, fun k q hq => ?_⟩, va_AO.of o4, va_AO.of o5⟩
  · match k, hq with
    | 0, hq => have e9 := Option.some.inj hq; subst e9; exact k0
    | 1, hq => have e9 := Option.some.inj hq; subst e9; exact k1
    | 2, hq => have e9 := Option.some.inj hq; subst e9; exact k2
    | 3, hq => have e9 := Option.some.inj hq; subst e9; exact k3
    | 4, hq => have e9 := Option.some.inj hq; subst e9; exact k4
    | 5, hq => have e9 := Option.some.inj hq; subst e9; exact k5
    | 6, hq => have e9 := Option.some.inj hq; subst e9; exact k6
    | 7, hq => have e9 := Option.some.inj hq; subst e9; exact k7
    | 8, hq => have e9 := Option.some.inj hq; subst e9; exact k8
    | 9, hq => have e9 := Option.some.inj hq; subst e9; exact k9
    | 10, hq => have e9 := Option.some.inj hq; subst e9; exact k10
    | 11, hq => have e9 := Option.some.inj hq; subst e9; exact k11
    | 12, hq => have e9 := Option.some.inj hq; subst e9; exact k12
    | n + 13, hq => exact absurd (show n + 13 < 13 from (List.getElem?_eq_some_iff.mp hq).1) (by omega)
  · match k, hq with
    | 0, hq => have e9 := Option.some.inj hq; subst e9; exact ⟨lw_arr g0 h0, f0⟩
    | 1, hq => have e9 := Option.some.inj hq; subst e9; exact ⟨lw_arr g1 h1, f1⟩
    | 2, hq => have e9 := Option.some.inj hq; subst e9; exact ⟨lw_arr g2 h2, f2⟩
    | 3, hq => have e9 := Option.some.inj hq; subst e9; exact ⟨lw_arr g3 h3, f3⟩
    | 4, hq => have e9 := Option.some.inj hq; subst e9; exact ⟨lw_arr g4 h4, x4, y4, g4, h4, e4, f4⟩
    | 5, hq => have e9 := Option.some.inj hq; subst e9; exact ⟨lw_arr g5 h5, x5, y5, g5, h5, e5, f5⟩
    | n + 6, hq => exact absurd (show n + 6 < 6 from (List.getElem?_eq_some_iff.mp hq).1) (by omega)
end
section
theorem lw_Zs {args : Array Value} {s : State} {G : th_G} (hG : G.2.2 = s.heap.size) (hts : ∀ w ∈ lw_tbl, w.before args s = true) (hn : narrow_1.before args s = true) : th_Z G s s.heap := by
  have ht : ∀ w ∈ th_tb, w.before args s = true := fun w hw => hts w (List.mem_filter.mp hw).1
  have hA : ∀ a : Nat, a < s.heap.size → ¬ G.2.2 ≤ a := fun a ha => by omega
  refine ⟨lw_zc hA (hts _ kw_619) (ht _ kw_16) (cb_r (cb_r (cb_l (cb_l (cb_l (cb_l (cb_l (cb_l hn)))))))) (hts _ kw_635) (ht _ kw_18) (cb_l (cb_l (cb_r (cb_l (cb_l (cb_l (cb_l (cb_l hn)))))))), ?_⟩
  have z94 : ∃ q : Nat, th_Zq G q [99, 111, 115, 116, 115] s s.heap ∧ vk_R RX5 94 "costs" q s := by
    refine lw_zq hA [99, 111, 115, 116, 115] (by decide) (hts _ kw_605) (cb_l (cb_l (cb_r (cb_l (cb_l (cb_r (cb_l (cb_l hn)))))))) (cb_r (cb_l (cb_r (cb_l (cb_l (cb_r (cb_l (cb_l hn)))))))) (cb_l (cb_r (cb_r (cb_l (cb_l (cb_r (cb_l (cb_l hn)))))))) (cb_r (cb_r (cb_r (cb_l (cb_l (cb_r (cb_l (cb_l hn)))))))) (fun j hj => ?_)
    match j, hj with
    | 0, _ => exact (cb_l (cb_l (cb_l (cb_r (cb_l (cb_r (cb_l (cb_l hn))))))))
    | 1, _ => exact (cb_r (cb_l (cb_l (cb_r (cb_l (cb_r (cb_l (cb_l hn))))))))
    | 2, _ => exact (cb_l (cb_r (cb_l (cb_r (cb_l (cb_r (cb_l (cb_l hn))))))))
    | 3, _ => exact (cb_r (cb_r (cb_l (cb_r (cb_l (cb_r (cb_l (cb_l hn))))))))
    | 4, _ => exact (cb_l (cb_l (cb_r (cb_r (cb_l (cb_r (cb_l (cb_l hn))))))))
    | j + 5, hj => exact absurd (show j + 5 < 5 from hj) (by omega)
  have z100 : ∃ q : Nat, th_Zq G q [119, 101, 97, 114, 115] s s.heap ∧ vk_R RX5 100 "wears" q s := by
    refine lw_zq hA [119, 101, 97, 114, 115] (by decide) (hts _ kw_658) (cb_r (cb_l (cb_r (cb_r (cb_l (cb_r (cb_l (cb_l hn)))))))) (cb_l (cb_r (cb_r (cb_r (cb_l (cb_r (cb_l (cb_l hn)))))))) (cb_r (cb_r (cb_r (cb_r (cb_l (cb_r (cb_l (cb_l hn)))))))) (cb_l (cb_l (cb_l (cb_r (cb_r (cb_l (cb_l hn))))))) (fun j hj => ?_)
    match j, hj with
    | 0, _ => exact (cb_l (cb_r (cb_l (cb_l (cb_r (cb_r (cb_l (cb_l hn))))))))
    | 1, _ => exact (cb_r (cb_r (cb_l (cb_l (cb_r (cb_r (cb_l (cb_l hn))))))))
    | 2, _ => exact (cb_l (cb_l (cb_r (cb_l (cb_r (cb_r (cb_l (cb_l hn))))))))
    | 3, _ => exact (cb_r (cb_l (cb_r (cb_l (cb_r (cb_r (cb_l (cb_l hn))))))))
    | 4, _ => exact (cb_l (cb_r (cb_r (cb_l (cb_r (cb_r (cb_l (cb_l hn))))))))
    | j + 5, hj => exact absurd (show j + 5 < 5 from hj) (by omega)
  have z102 : ∃ q : Nat, th_Zq G q [98, 97, 114, 115] s s.heap ∧ vk_R RX5 102 "bars" q s := by
    refine lw_zq hA [98, 97, 114, 115] (by decide) (hts _ kw_659) (cb_r (cb_r (cb_r (cb_l (cb_r (cb_r (cb_l (cb_l hn)))))))) (cb_l (cb_l (cb_l (cb_r (cb_r (cb_r (cb_l (cb_l hn)))))))) (cb_r (cb_l (cb_l (cb_r (cb_r (cb_r (cb_l (cb_l hn)))))))) (cb_l (cb_r (cb_l (cb_r (cb_r (cb_r (cb_l (cb_l hn)))))))) (fun j hj => ?_)
    match j, hj with
    | 0, _ => exact (cb_r (cb_r (cb_l (cb_r (cb_r (cb_r (cb_l (cb_l hn))))))))
    | 1, _ => exact (cb_l (cb_l (cb_r (cb_r (cb_r (cb_r (cb_l (cb_l hn))))))))
    | 2, _ => exact (cb_r (cb_l (cb_r (cb_r (cb_r (cb_r (cb_l (cb_l hn))))))))
    | 3, _ => exact (cb_l (cb_r (cb_r (cb_r (cb_r (cb_r (cb_l (cb_l hn))))))))
    | j + 4, hj => exact absurd (show j + 4 < 4 from hj) (by omega)
  have z104 : ∃ q : Nat, th_Zq G q [108, 97, 121] s s.heap ∧ vk_R RX5 104 "lay" q s := by
    refine lw_zq hA [108, 97, 121] (by decide) (hts _ kw_660) (cb_r (cb_r (cb_r (cb_r (cb_r (cb_r (cb_l (cb_l hn)))))))) (cb_l (cb_l (cb_l (cb_l (cb_l (cb_r (cb_l hn))))))) (cb_l (cb_r (cb_l (cb_l (cb_l (cb_l (cb_r (cb_l hn)))))))) (cb_r (cb_r (cb_l (cb_l (cb_l (cb_l (cb_r (cb_l hn)))))))) (fun j hj => ?_)
    match j, hj with
    | 0, _ => exact (cb_l (cb_l (cb_r (cb_l (cb_l (cb_l (cb_r (cb_l hn))))))))
    | 1, _ => exact (cb_r (cb_l (cb_r (cb_l (cb_l (cb_l (cb_r (cb_l hn))))))))
    | 2, _ => exact (cb_l (cb_r (cb_r (cb_l (cb_l (cb_l (cb_r (cb_l hn))))))))
    | j + 3, hj => exact absurd (show j + 3 < 3 from hj) (by omega)
  have z106 : ∃ q : Nat, th_Zq G q [114, 111, 108, 108] s s.heap ∧ vk_R RX5 106 "roll" q s := by
    refine lw_zq hA [114, 111, 108, 108] (by decide) (hts _ kw_661) (cb_r (cb_r (cb_r (cb_l (cb_l (cb_l (cb_r (cb_l hn)))))))) (cb_l (cb_l (cb_l (cb_r (cb_l (cb_l (cb_r (cb_l hn)))))))) (cb_r (cb_l (cb_l (cb_r (cb_l (cb_l (cb_r (cb_l hn)))))))) (cb_l (cb_r (cb_l (cb_r (cb_l (cb_l (cb_r (cb_l hn)))))))) (fun j hj => ?_)
    match j, hj with
    | 0, _ => exact (cb_r (cb_r (cb_l (cb_r (cb_l (cb_l (cb_r (cb_l hn))))))))
    | 1, _ => exact (cb_l (cb_l (cb_r (cb_r (cb_l (cb_l (cb_r (cb_l hn))))))))
    | 2, _ => exact (cb_r (cb_l (cb_r (cb_r (cb_l (cb_l (cb_r (cb_l hn))))))))
    | 3, _ => exact (cb_l (cb_r (cb_r (cb_r (cb_l (cb_l (cb_r (cb_l hn))))))))
    | j + 4, hj => exact absurd (show j + 4 < 4 from hj) (by omega)
  have z108 : ∃ q : Nat, th_Zq G q [109, 105, 114, 114, 111, 114] s s.heap ∧ vk_R RX5 108 "mirror" q s := by
    refine lw_zq hA [109, 105, 114, 114, 111, 114] (by decide) (hts _ kw_662) (cb_r (cb_r (cb_r (cb_r (cb_l (cb_l (cb_r (cb_l hn)))))))) (cb_l (cb_l (cb_l (cb_r (cb_l (cb_r (cb_l hn))))))) (cb_l (cb_r (cb_l (cb_l (cb_r (cb_l (cb_r (cb_l hn)))))))) (cb_r (cb_r (cb_l (cb_l (cb_r (cb_l (cb_r (cb_l hn)))))))) (fun j hj => ?_)
    match j, hj with
    | 0, _ => exact (cb_l (cb_l (cb_r (cb_l (cb_r (cb_l (cb_r (cb_l hn))))))))
    | 1, _ => exact (cb_r (cb_l (cb_r (cb_l (cb_r (cb_l (cb_r (cb_l hn))))))))
    | 2, _ => exact (cb_l (cb_r (cb_r (cb_l (cb_r (cb_l (cb_r (cb_l hn))))))))
    | 3, _ => exact (cb_r (cb_r (cb_r (cb_l (cb_r (cb_l (cb_r (cb_l hn))))))))
    | 4, _ => exact (cb_l (cb_l (cb_l (cb_r (cb_r (cb_l (cb_r (cb_l hn))))))))
    | 5, _ => exact (cb_r (cb_l (cb_l (cb_r (cb_r (cb_l (cb_r (cb_l hn))))))))
    | j + 6, hj => exact absurd (show j + 6 < 6 from hj) (by omega)
  have z110 : ∃ q : Nat, th_Zq G q [112, 97, 115, 115] s s.heap ∧ vk_R RX5 110 "pass" q s := by
    refine lw_zq hA [112, 97, 115, 115] (by decide) (hts _ kw_663) (cb_l (cb_r (cb_l (cb_r (cb_r (cb_l (cb_r (cb_l hn)))))))) (cb_r (cb_r (cb_l (cb_r (cb_r (cb_l (cb_r (cb_l hn)))))))) (cb_l (cb_l (cb_r (cb_r (cb_r (cb_l (cb_r (cb_l hn)))))))) (cb_r (cb_l (cb_r (cb_r (cb_r (cb_l (cb_r (cb_l hn)))))))) (fun j hj => ?_)
    match j, hj with
    | 0, _ => exact (cb_l (cb_r (cb_r (cb_r (cb_r (cb_l (cb_r (cb_l hn))))))))
    | 1, _ => exact (cb_r (cb_r (cb_r (cb_r (cb_r (cb_l (cb_r (cb_l hn))))))))
    | 2, _ => exact (cb_l (cb_l (cb_l (cb_l (cb_r (cb_r (cb_l hn)))))))
    | 3, _ => exact (cb_l (cb_r (cb_l (cb_l (cb_l (cb_r (cb_r (cb_l hn))))))))
    | j + 4, hj => exact absurd (show j + 4 < 4 from hj) (by omega)
  have z112 : ∃ q : Nat, th_Zq G q [105, 102] s s.heap ∧ vk_R RX5 112 "if" q s := by
    refine lw_zq hA [105, 102] (by decide) (hts _ kw_664) (cb_r (cb_r (cb_l (cb_l (cb_l (cb_r (cb_r (cb_l hn)))))))) (cb_l (cb_l (cb_r (cb_l (cb_l (cb_r (cb_r (cb_l hn)))))))) (cb_r (cb_l (cb_r (cb_l (cb_l (cb_r (cb_r (cb_l hn)))))))) (cb_l (cb_r (cb_r (cb_l (cb_l (cb_r (cb_r (cb_l hn)))))))) (fun j hj => ?_)
    match j, hj with
    | 0, _ => exact (cb_r (cb_r (cb_r (cb_l (cb_l (cb_r (cb_r (cb_l hn))))))))
    | 1, _ => exact (cb_l (cb_l (cb_l (cb_r (cb_l (cb_r (cb_r (cb_l hn))))))))
    | j + 2, hj => exact absurd (show j + 2 < 2 from hj) (by omega)
  have z114 : ∃ q : Nat, th_Zq G q [116, 105, 109, 101, 115] s s.heap ∧ vk_R RX5 114 "times" q s := by
    refine lw_zq hA [116, 105, 109, 101, 115] (by decide) (hts _ kw_665) (cb_r (cb_l (cb_l (cb_r (cb_l (cb_r (cb_r (cb_l hn)))))))) (cb_l (cb_r (cb_l (cb_r (cb_l (cb_r (cb_r (cb_l hn)))))))) (cb_r (cb_r (cb_l (cb_r (cb_l (cb_r (cb_r (cb_l hn)))))))) (cb_l (cb_l (cb_r (cb_r (cb_l (cb_r (cb_r (cb_l hn)))))))) (fun j hj => ?_)
    match j, hj with
    | 0, _ => exact (cb_r (cb_l (cb_r (cb_r (cb_l (cb_r (cb_r (cb_l hn))))))))
    | 1, _ => exact (cb_l (cb_r (cb_r (cb_r (cb_l (cb_r (cb_r (cb_l hn))))))))
    | 2, _ => exact (cb_r (cb_r (cb_r (cb_r (cb_l (cb_r (cb_r (cb_l hn))))))))
    | 3, _ => exact (cb_l (cb_l (cb_l (cb_r (cb_r (cb_r (cb_l hn)))))))
    | 4, _ => exact (cb_l (cb_r (cb_l (cb_l (cb_r (cb_r (cb_r (cb_l hn))))))))
    | j + 5, hj => exact absurd (show j + 5 < 5 from hj) (by omega)
  have z116 : ∃ q : Nat, th_Zq G q [97, 116] s s.heap ∧ vk_R RX5 116 "at" q s := by
    refine lw_zq hA [97, 116] (by decide) (hts _ kw_666) (cb_r (cb_r (cb_l (cb_l (cb_r (cb_r (cb_r (cb_l hn)))))))) (cb_l (cb_l (cb_r (cb_l (cb_r (cb_r (cb_r (cb_l hn)))))))) (cb_r (cb_l (cb_r (cb_l (cb_r (cb_r (cb_r (cb_l hn)))))))) (cb_l (cb_r (cb_r (cb_l (cb_r (cb_r (cb_r (cb_l hn)))))))) (fun j hj => ?_)
    match j, hj with
    | 0, _ => exact (cb_r (cb_r (cb_r (cb_l (cb_r (cb_r (cb_r (cb_l hn))))))))
    | 1, _ => exact (cb_l (cb_l (cb_l (cb_r (cb_r (cb_r (cb_r (cb_l hn))))))))
    | j + 2, hj => exact absurd (show j + 2 < 2 from hj) (by omega)
  have z117 : ∃ q : Nat, th_Zq G q [98, 121] s s.heap ∧ vk_R RX5 117 "by" q s := by
    refine lw_zq hA [98, 121] (by decide) (hts _ kw_667) (cb_r (cb_l (cb_l (cb_r (cb_r (cb_r (cb_r (cb_l hn)))))))) (cb_l (cb_r (cb_l (cb_r (cb_r (cb_r (cb_r (cb_l hn)))))))) (cb_r (cb_r (cb_l (cb_r (cb_r (cb_r (cb_r (cb_l hn)))))))) (cb_l (cb_l (cb_r (cb_r (cb_r (cb_r (cb_r (cb_l hn)))))))) (fun j hj => ?_)
    match j, hj with
    | 0, _ => exact (cb_r (cb_l (cb_r (cb_r (cb_r (cb_r (cb_r (cb_l hn))))))))
    | 1, _ => exact (cb_l (cb_r (cb_r (cb_r (cb_r (cb_r (cb_r (cb_l hn))))))))
    | j + 2, hj => exact absurd (show j + 2 < 2 from hj) (by omega)
  have z119 : ∃ q : Nat, th_Zq G q [111, 114] s s.heap ∧ vk_R RX5 119 "or" q s := by
    refine lw_zq hA [111, 114] (by decide) (hts _ kw_668) (cb_r (cb_r (cb_r (cb_r (cb_r (cb_r (cb_r (cb_l hn)))))))) (cb_l (cb_l (cb_l (cb_l (cb_l (cb_l (cb_r hn))))))) (cb_l (cb_r (cb_l (cb_l (cb_l (cb_l (cb_l (cb_r hn)))))))) (cb_r (cb_r (cb_l (cb_l (cb_l (cb_l (cb_l (cb_r hn)))))))) (fun j hj => ?_)
    match j, hj with
    | 0, _ => exact (cb_l (cb_l (cb_r (cb_l (cb_l (cb_l (cb_l (cb_r hn))))))))
    | 1, _ => exact (cb_r (cb_l (cb_r (cb_l (cb_l (cb_l (cb_l (cb_r hn))))))))
    | j + 2, hj => exact absurd (show j + 2 < 2 from hj) (by omega)
  have z121 : ∃ q : Nat, th_Zq G q [97, 110, 100] s s.heap ∧ vk_R RX5 121 "and" q s := by
    refine lw_zq hA [97, 110, 100] (by decide) (hts _ kw_669) (cb_l (cb_r (cb_r (cb_l (cb_l (cb_l (cb_l (cb_r hn)))))))) (cb_r (cb_r (cb_r (cb_l (cb_l (cb_l (cb_l (cb_r hn)))))))) (cb_l (cb_l (cb_l (cb_r (cb_l (cb_l (cb_l (cb_r hn)))))))) (cb_r (cb_l (cb_l (cb_r (cb_l (cb_l (cb_l (cb_r hn)))))))) (fun j hj => ?_)
    match j, hj with
    | 0, _ => exact (cb_l (cb_r (cb_l (cb_r (cb_l (cb_l (cb_l (cb_r hn))))))))
    | 1, _ => exact (cb_r (cb_r (cb_l (cb_r (cb_l (cb_l (cb_l (cb_r hn))))))))
    | 2, _ => exact (cb_l (cb_l (cb_r (cb_r (cb_l (cb_l (cb_l (cb_r hn))))))))
    | j + 3, hj => exact absurd (show j + 3 < 3 from hj) (by omega)
  have z123 : ∃ q : Nat, th_Zq G q [110, 111, 116] s s.heap ∧ vk_R RX5 123 "not" q s := by
    refine lw_zq hA [110, 111, 116] (by decide) (hts _ kw_670) (cb_r (cb_l (cb_r (cb_r (cb_l (cb_l (cb_l (cb_r hn)))))))) (cb_l (cb_r (cb_r (cb_r (cb_l (cb_l (cb_l (cb_r hn)))))))) (cb_r (cb_r (cb_r (cb_r (cb_l (cb_l (cb_l (cb_r hn)))))))) (cb_l (cb_l (cb_l (cb_r (cb_l (cb_l (cb_r hn))))))) (fun j hj => ?_)
    match j, hj with
    | 0, _ => exact (cb_l (cb_r (cb_l (cb_l (cb_r (cb_l (cb_l (cb_r hn))))))))
    | 1, _ => exact (cb_r (cb_r (cb_l (cb_l (cb_r (cb_l (cb_l (cb_r hn))))))))
    | 2, _ => exact (cb_l (cb_l (cb_r (cb_l (cb_r (cb_l (cb_l (cb_r hn))))))))
    | j + 3, hj => exact absurd (show j + 3 < 3 from hj) (by omega)
  have z125 : ∃ q : Nat, th_Zq G q [99, 97, 114, 112, 101, 116] s s.heap ∧ vk_R RX5 125 "carpet" q s := by
    refine lw_zq hA [99, 97, 114, 112, 101, 116] (by decide) (hts _ kw_671) (cb_r (cb_l (cb_r (cb_l (cb_r (cb_l (cb_l (cb_r hn)))))))) (cb_l (cb_r (cb_r (cb_l (cb_r (cb_l (cb_l (cb_r hn)))))))) (cb_r (cb_r (cb_r (cb_l (cb_r (cb_l (cb_l (cb_r hn)))))))) (cb_l (cb_l (cb_l (cb_r (cb_r (cb_l (cb_l (cb_r hn)))))))) (fun j hj => ?_)
    match j, hj with
    | 0, _ => exact (cb_r (cb_l (cb_l (cb_r (cb_r (cb_l (cb_l (cb_r hn))))))))
    | 1, _ => exact (cb_l (cb_r (cb_l (cb_r (cb_r (cb_l (cb_l (cb_r hn))))))))
    | 2, _ => exact (cb_r (cb_r (cb_l (cb_r (cb_r (cb_l (cb_l (cb_r hn))))))))
    | 3, _ => exact (cb_l (cb_l (cb_r (cb_r (cb_r (cb_l (cb_l (cb_r hn))))))))
    | 4, _ => exact (cb_r (cb_l (cb_r (cb_r (cb_r (cb_l (cb_l (cb_r hn))))))))
    | 5, _ => exact (cb_l (cb_r (cb_r (cb_r (cb_r (cb_l (cb_l (cb_r hn))))))))
    | j + 6, hj => exact absurd (show j + 6 < 6 from hj) (by omega)
  have z127 : ∃ q : Nat, th_Zq G q [115, 105, 100, 101] s s.heap ∧ vk_R RX5 127 "side" q s := by
    refine lw_zq hA [115, 105, 100, 101] (by decide) (hts _ kw_672) (cb_r (cb_r (cb_r (cb_r (cb_r (cb_l (cb_l (cb_r hn)))))))) (cb_l (cb_l (cb_l (cb_l (cb_r (cb_l (cb_r hn))))))) (cb_l (cb_r (cb_l (cb_l (cb_l (cb_r (cb_l (cb_r hn)))))))) (cb_r (cb_r (cb_l (cb_l (cb_l (cb_r (cb_l (cb_r hn)))))))) (fun j hj => ?_)
    match j, hj with
    | 0, _ => exact (cb_l (cb_l (cb_r (cb_l (cb_l (cb_r (cb_l (cb_r hn))))))))
    | 1, _ => exact (cb_r (cb_l (cb_r (cb_l (cb_l (cb_r (cb_l (cb_r hn))))))))
    | 2, _ => exact (cb_l (cb_r (cb_r (cb_l (cb_l (cb_r (cb_l (cb_r hn))))))))
    | 3, _ => exact (cb_r (cb_r (cb_r (cb_l (cb_l (cb_r (cb_l (cb_r hn))))))))
    | j + 4, hj => exact absurd (show j + 4 < 4 from hj) (by omega)
  have z129 : ∃ q : Nat, th_Zq G q [107, 105, 110, 100] s s.heap ∧ vk_R RX5 129 "kind" q s := by
    refine lw_zq hA [107, 105, 110, 100] (by decide) (hts _ kw_673) (cb_l (cb_l (cb_l (cb_r (cb_l (cb_r (cb_l (cb_r hn)))))))) (cb_r (cb_l (cb_l (cb_r (cb_l (cb_r (cb_l (cb_r hn)))))))) (cb_l (cb_r (cb_l (cb_r (cb_l (cb_r (cb_l (cb_r hn)))))))) (cb_r (cb_r (cb_l (cb_r (cb_l (cb_r (cb_l (cb_r hn)))))))) (fun j hj => ?_)
    match j, hj with
    | 0, _ => exact (cb_l (cb_l (cb_r (cb_r (cb_l (cb_r (cb_l (cb_r hn))))))))
    | 1, _ => exact (cb_r (cb_l (cb_r (cb_r (cb_l (cb_r (cb_l (cb_r hn))))))))
    | 2, _ => exact (cb_l (cb_r (cb_r (cb_r (cb_l (cb_r (cb_l (cb_r hn))))))))
    | 3, _ => exact (cb_r (cb_r (cb_r (cb_r (cb_l (cb_r (cb_l (cb_r hn))))))))
    | j + 4, hj => exact absurd (show j + 4 < 4 from hj) (by omega)
  have z131 : ∃ q : Nat, th_Zq G q [112, 105, 108, 101] s s.heap ∧ vk_R RX5 131 "pile" q s := by
    refine lw_zq hA [112, 105, 108, 101] (by decide) (hts _ kw_674) (cb_l (cb_l (cb_l (cb_r (cb_r (cb_l (cb_r hn))))))) (cb_l (cb_r (cb_l (cb_l (cb_r (cb_r (cb_l (cb_r hn)))))))) (cb_r (cb_r (cb_l (cb_l (cb_r (cb_r (cb_l (cb_r hn)))))))) (cb_l (cb_l (cb_r (cb_l (cb_r (cb_r (cb_l (cb_r hn)))))))) (fun j hj => ?_)
    match j, hj with
    | 0, _ => exact (cb_r (cb_l (cb_r (cb_l (cb_r (cb_r (cb_l (cb_r hn))))))))
    | 1, _ => exact (cb_l (cb_r (cb_r (cb_l (cb_r (cb_r (cb_l (cb_r hn))))))))
    | 2, _ => exact (cb_r (cb_r (cb_r (cb_l (cb_r (cb_r (cb_l (cb_r hn))))))))
    | 3, _ => exact (cb_l (cb_l (cb_l (cb_r (cb_r (cb_r (cb_l (cb_r hn))))))))
    | j + 4, hj => exact absurd (show j + 4 < 4 from hj) (by omega)
  have z133 : ∃ q : Nat, th_Zq G q [120] s s.heap ∧ vk_R RX5 133 "x" q s := by
    refine lw_zq hA [120] (by decide) (hts _ kw_675) (cb_r (cb_l (cb_l (cb_r (cb_r (cb_r (cb_l (cb_r hn)))))))) (cb_l (cb_r (cb_l (cb_r (cb_r (cb_r (cb_l (cb_r hn)))))))) (cb_r (cb_r (cb_l (cb_r (cb_r (cb_r (cb_l (cb_r hn)))))))) (cb_l (cb_l (cb_r (cb_r (cb_r (cb_r (cb_l (cb_r hn)))))))) (fun j hj => ?_)
    match j, hj with
    | 0, _ => exact (cb_r (cb_l (cb_r (cb_r (cb_r (cb_r (cb_l (cb_r hn))))))))
    | j + 1, hj => exact absurd (show j + 1 < 1 from hj) (by omega)
  have z135 : ∃ q : Nat, th_Zq G q [121] s s.heap ∧ vk_R RX5 135 "y" q s := by
    refine lw_zq hA [121] (by decide) (hts _ kw_676) (cb_l (cb_r (cb_r (cb_r (cb_r (cb_r (cb_l (cb_r hn)))))))) (cb_r (cb_r (cb_r (cb_r (cb_r (cb_r (cb_l (cb_r hn)))))))) (cb_l (cb_l (cb_l (cb_l (cb_l (cb_r (cb_r hn))))))) (cb_l (cb_r (cb_l (cb_l (cb_l (cb_l (cb_r (cb_r hn)))))))) (fun j hj => ?_)
    match j, hj with
    | 0, _ => exact (cb_r (cb_r (cb_l (cb_l (cb_l (cb_l (cb_r (cb_r hn))))))))
    | j + 1, hj => exact absurd (show j + 1 < 1 from hj) (by omega)
  have z137 : ∃ q : Nat, th_Zq G q [121, 101, 97, 114] s s.heap ∧ vk_R RX5 137 "year" q s := by
    refine lw_zq hA [121, 101, 97, 114] (by decide) (hts _ kw_677) (cb_l (cb_l (cb_r (cb_l (cb_l (cb_l (cb_r (cb_r hn)))))))) (cb_r (cb_l (cb_r (cb_l (cb_l (cb_l (cb_r (cb_r hn)))))))) (cb_l (cb_r (cb_r (cb_l (cb_l (cb_l (cb_r (cb_r hn)))))))) (cb_r (cb_r (cb_r (cb_l (cb_l (cb_l (cb_r (cb_r hn)))))))) (fun j hj => ?_)
    match j, hj with
    | 0, _ => exact (cb_l (cb_l (cb_l (cb_r (cb_l (cb_l (cb_r (cb_r hn))))))))
    | 1, _ => exact (cb_r (cb_l (cb_l (cb_r (cb_l (cb_l (cb_r (cb_r hn))))))))
    | 2, _ => exact (cb_l (cb_r (cb_l (cb_r (cb_l (cb_l (cb_r (cb_r hn))))))))
    | 3, _ => exact (cb_r (cb_r (cb_l (cb_r (cb_l (cb_l (cb_r (cb_r hn))))))))
    | j + 4, hj => exact absurd (show j + 4 < 4 from hj) (by omega)
  have z139 : ∃ q : Nat, th_Zq G q [109, 111, 111, 100] s s.heap ∧ vk_R RX5 139 "mood" q s := by
    refine lw_zq hA [109, 111, 111, 100] (by decide) (hts _ kw_678) (cb_l (cb_l (cb_r (cb_r (cb_l (cb_l (cb_r (cb_r hn)))))))) (cb_r (cb_l (cb_r (cb_r (cb_l (cb_l (cb_r (cb_r hn)))))))) (cb_l (cb_r (cb_r (cb_r (cb_l (cb_l (cb_r (cb_r hn)))))))) (cb_r (cb_r (cb_r (cb_r (cb_l (cb_l (cb_r (cb_r hn)))))))) (fun j hj => ?_)
    match j, hj with
    | 0, _ => exact (cb_l (cb_l (cb_l (cb_r (cb_l (cb_r (cb_r hn)))))))
    | 1, _ => exact (cb_l (cb_r (cb_l (cb_l (cb_r (cb_l (cb_r (cb_r hn))))))))
    | 2, _ => exact (cb_r (cb_r (cb_l (cb_l (cb_r (cb_l (cb_r (cb_r hn))))))))
    | 3, _ => exact (cb_l (cb_l (cb_r (cb_l (cb_r (cb_l (cb_r (cb_r hn))))))))
    | j + 4, hj => exact absurd (show j + 4 < 4 from hj) (by omega)
  have z141 : ∃ q : Nat, th_Zq G q [100, 111, 110, 101] s s.heap ∧ vk_R RX5 141 "done" q s := by
    refine lw_zq hA [100, 111, 110, 101] (by decide) (hts _ kw_679) (cb_r (cb_l (cb_r (cb_l (cb_r (cb_l (cb_r (cb_r hn)))))))) (cb_l (cb_r (cb_r (cb_l (cb_r (cb_l (cb_r (cb_r hn)))))))) (cb_r (cb_r (cb_r (cb_l (cb_r (cb_l (cb_r (cb_r hn)))))))) (cb_l (cb_l (cb_l (cb_r (cb_r (cb_l (cb_r (cb_r hn)))))))) (fun j hj => ?_)
    match j, hj with
    | 0, _ => exact (cb_r (cb_l (cb_l (cb_r (cb_r (cb_l (cb_r (cb_r hn))))))))
    | 1, _ => exact (cb_l (cb_r (cb_l (cb_r (cb_r (cb_l (cb_r (cb_r hn))))))))
    | 2, _ => exact (cb_r (cb_r (cb_l (cb_r (cb_r (cb_l (cb_r (cb_r hn))))))))
    | 3, _ => exact (cb_l (cb_l (cb_r (cb_r (cb_r (cb_l (cb_r (cb_r hn))))))))
    | j + 4, hj => exact absurd (show j + 4 < 4 from hj) (by omega)
  have z143 : ∃ q : Nat, th_Zq G q [108, 97, 116, 101, 115, 116] s s.heap ∧ vk_R RX5 143 "latest" q s := by
    refine lw_zq hA [108, 97, 116, 101, 115, 116] (by decide) (hts _ kw_680) (cb_r (cb_l (cb_r (cb_r (cb_r (cb_l (cb_r (cb_r hn)))))))) (cb_l (cb_r (cb_r (cb_r (cb_r (cb_l (cb_r (cb_r hn)))))))) (cb_r (cb_r (cb_r (cb_r (cb_r (cb_l (cb_r (cb_r hn)))))))) (cb_l (cb_l (cb_l (cb_l (cb_r (cb_r (cb_r hn))))))) (fun j hj => ?_)
    match j, hj with
    | 0, _ => exact (cb_l (cb_r (cb_l (cb_l (cb_l (cb_r (cb_r (cb_r hn))))))))
    | 1, _ => exact (cb_r (cb_r (cb_l (cb_l (cb_l (cb_r (cb_r (cb_r hn))))))))
    | 2, _ => exact (cb_l (cb_l (cb_r (cb_l (cb_l (cb_r (cb_r (cb_r hn))))))))
    | 3, _ => exact (cb_r (cb_l (cb_r (cb_l (cb_l (cb_r (cb_r (cb_r hn))))))))
    | 4, _ => exact (cb_l (cb_r (cb_r (cb_l (cb_l (cb_r (cb_r (cb_r hn))))))))
    | 5, _ => exact (cb_r (cb_r (cb_r (cb_l (cb_l (cb_r (cb_r (cb_r hn))))))))
    | j + 6, hj => exact absurd (show j + 6 < 6 from hj) (by omega)
  have z145 : ∃ q : Nat, th_Zq G q [98, 97, 114, 101] s s.heap ∧ vk_R RX5 145 "bare" q s := by
    refine lw_zq hA [98, 97, 114, 101] (by decide) (hts _ kw_681) (cb_l (cb_l (cb_l (cb_r (cb_l (cb_r (cb_r (cb_r hn)))))))) (cb_r (cb_l (cb_l (cb_r (cb_l (cb_r (cb_r (cb_r hn)))))))) (cb_l (cb_r (cb_l (cb_r (cb_l (cb_r (cb_r (cb_r hn)))))))) (cb_r (cb_r (cb_l (cb_r (cb_l (cb_r (cb_r (cb_r hn)))))))) (fun j hj => ?_)
    match j, hj with
    | 0, _ => exact (cb_l (cb_l (cb_r (cb_r (cb_l (cb_r (cb_r (cb_r hn))))))))
    | 1, _ => exact (cb_r (cb_l (cb_r (cb_r (cb_l (cb_r (cb_r (cb_r hn))))))))
    | 2, _ => exact (cb_l (cb_r (cb_r (cb_r (cb_l (cb_r (cb_r (cb_r hn))))))))
    | 3, _ => exact (cb_r (cb_r (cb_r (cb_r (cb_l (cb_r (cb_r (cb_r hn))))))))
    | j + 4, hj => exact absurd (show j + 4 < 4 from hj) (by omega)
  have z147 : ∃ q : Nat, th_Zq G q [112, 97, 105, 100] s s.heap ∧ vk_R RX5 147 "paid" q s := by
    refine lw_zq hA [112, 97, 105, 100] (by decide) (hts _ kw_682) (cb_l (cb_l (cb_l (cb_l (cb_r (cb_r (cb_r (cb_r hn)))))))) (cb_r (cb_l (cb_l (cb_l (cb_r (cb_r (cb_r (cb_r hn)))))))) (cb_l (cb_r (cb_l (cb_l (cb_r (cb_r (cb_r (cb_r hn)))))))) (cb_r (cb_r (cb_l (cb_l (cb_r (cb_r (cb_r (cb_r hn)))))))) (fun j hj => ?_)
    match j, hj with
    | 0, _ => exact (cb_l (cb_l (cb_r (cb_l (cb_r (cb_r (cb_r (cb_r hn))))))))
    | 1, _ => exact (cb_r (cb_l (cb_r (cb_l (cb_r (cb_r (cb_r (cb_r hn))))))))
    | 2, _ => exact (cb_l (cb_r (cb_r (cb_l (cb_r (cb_r (cb_r (cb_r hn))))))))
    | 3, _ => exact (cb_r (cb_r (cb_r (cb_l (cb_r (cb_r (cb_r (cb_r hn))))))))
    | j + 4, hj => exact absurd (show j + 4 < 4 from hj) (by omega)
  have z149 : ∃ q : Nat, th_Zq G q [108, 97, 105, 100] s s.heap ∧ vk_R RX5 149 "laid" q s := by
    refine lw_zq hA [108, 97, 105, 100] (by decide) (hts _ kw_683) (cb_l (cb_l (cb_l (cb_r (cb_r (cb_r (cb_r (cb_r hn)))))))) (cb_r (cb_l (cb_l (cb_r (cb_r (cb_r (cb_r (cb_r hn)))))))) (cb_l (cb_r (cb_l (cb_r (cb_r (cb_r (cb_r (cb_r hn)))))))) (cb_r (cb_r (cb_l (cb_r (cb_r (cb_r (cb_r (cb_r hn)))))))) (fun j hj => ?_)
    match j, hj with
    | 0, _ => exact (cb_l (cb_l (cb_r (cb_r (cb_r (cb_r (cb_r (cb_r hn))))))))
    | 1, _ => exact (cb_r (cb_l (cb_r (cb_r (cb_r (cb_r (cb_r (cb_r hn))))))))
    | 2, _ => exact (cb_l (cb_r (cb_r (cb_r (cb_r (cb_r (cb_r (cb_r hn))))))))
    | 3, _ => exact (cb_r (cb_r (cb_r (cb_r (cb_r (cb_r (cb_r (cb_r hn))))))))
    | j + 4, hj => exact absurd (show j + 4 < 4 from hj) (by omega)
  unfold th_st27
  exact (List.forall_mem_cons.2 ⟨z94, (List.forall_mem_cons.2 ⟨z100, (List.forall_mem_cons.2 ⟨z102, (List.forall_mem_cons.2 ⟨z104, (List.forall_mem_cons.2 ⟨z106, (List.forall_mem_cons.2 ⟨z108, (List.forall_mem_cons.2 ⟨z110, (List.forall_mem_cons.2 ⟨z112, (List.forall_mem_cons.2 ⟨z114, (List.forall_mem_cons.2 ⟨z116, (List.forall_mem_cons.2 ⟨z117, (List.forall_mem_cons.2 ⟨z119, (List.forall_mem_cons.2 ⟨z121, (List.forall_mem_cons.2 ⟨z123, (List.forall_mem_cons.2 ⟨z125, (List.forall_mem_cons.2 ⟨z127, (List.forall_mem_cons.2 ⟨z129, (List.forall_mem_cons.2 ⟨z131, (List.forall_mem_cons.2 ⟨z133, (List.forall_mem_cons.2 ⟨z135, (List.forall_mem_cons.2 ⟨z137, (List.forall_mem_cons.2 ⟨z139, (List.forall_mem_cons.2 ⟨z141, (List.forall_mem_cons.2 ⟨z143, (List.forall_mem_cons.2 ⟨z145, (List.forall_mem_cons.2 ⟨z147, (List.forall_mem_cons.2 ⟨z149, (fun _ h => absurd h List.not_mem_nil)⟩)⟩)⟩)⟩)⟩)⟩)⟩)⟩)⟩)⟩)⟩)⟩)⟩)⟩)⟩)⟩)⟩)⟩)⟩)⟩)⟩)⟩)⟩)⟩)⟩)⟩)⟩)
end
