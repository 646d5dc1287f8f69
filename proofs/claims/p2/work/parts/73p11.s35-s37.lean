section QTS
variable {V V' U U' W W' W0 W1 W2 : dV} {a x y c p q k : Int} {A : Nat → Int} {i : Nat}
/-- what the reference's search changes -/
def sf_fr (a : Int) (W W' : dV) : Prop := ∀ b m z, ¬ (b = a ∧ ((22 ≤ m ∧ m ≤ 26) ∨ (29 ≤ m ∧ m ≤ 30) ∨ (34 ≤ m ∧ m ≤ 45))) → W' b m z = W b m z
theorem sf_r : sf_fr a W W := fun _ _ _ _ => rfl
theorem sf_t (h : sf_fr a W W') (k : sf_fr a W' W1) : sf_fr a W W1 := fun b m z q => (k b m z q).trans (h b m z q)
theorem sf_u {m : Nat} {z : Int} (hm : (22 ≤ m ∧ m ≤ 26) ∨ (29 ≤ m ∧ m ≤ 30) ∨ (34 ≤ m ∧ m ≤ 45)) : sf_fr a W (dv_u W a m z y) := fun b m' z' q => by
  unfold dv_u; rw [if_neg (fun e => q ⟨e.1, by omega⟩)]
theorem sf_te (h : te_fr a W W') : sf_fr a W W' := fun b m z q => h b m z (fun w => q ⟨w.1, Or.inl w.2⟩)
theorem sf_29 (h : ∀ b m z, ¬ (b = a ∧ m = 29) → W' b m z = W b m z) : sf_fr a W W' := fun b m z q => h b m z (fun w => q ⟨w.1, by omega⟩)
theorem sf_m (h : ∀ b m z, ¬ (b = a ∧ (34 ≤ m ∧ m ≤ 45)) → W' b m z = W b m z) : sf_fr a W W' := fun b m z q => h b m z (fun w => q ⟨w.1, by omega⟩)
theorem sf_2 (h : sf_fr a W W') (z : Int) : W' a 2 z = W a 2 z := h a 2 z (fun q => absurd q.2 (by omega))
theorem JX_s (h : JX A a i V W) (f : sf_fr a W W') : JX A a i V W' := by
  obtain ⟨hA, hG, hl, hr, hf, hi⟩ := h
  have w2 := sf_2 f
  have r : ∀ m z, V m z = V m z := fun _ _ => rfl
  refine ⟨hA, hG, ?_, ⟨fun z => by rw [f a 17 z (fun q => absurd q.2 (by omega))]; exact hr.1 z, fun z z0 z1 => by rw [f a 7 z (fun q => absurd q.2 (by omega))]; exact hr.2.1 z z0 z1, hr.2.2⟩, ?_, by rw [w2]; exact hi⟩
  · rw [show W' a 2 = W a 2 from funext w2]; exact hl
  · rw [show W' a 2 = W a 2 from funext w2]; exact hf
theorem s_bar (h : JX A a 4 V U) (c0 : 0 ≤ c) (c1 : c < U a 2 69) (hx : 0 ≤ x ∧ x ≤ 11) (hy : 0 ≤ y ∧ y ≤ 11) : ∃ (U' : dV) (r : Int), f_X12_isBarred U a c x y = (U', r) ∧ sf_fr a U U' := by
  obtain ⟨lx, -, hjd⟩ := JX_jd h
  have e7 := (ef9_n h.2.2.2.2.1.1).1
  obtain ⟨V', W', t, -, w2, -, w4, -⟩ := q_bar hjd c0 (by rw [e7]; exact c1) hx hy
  exact ⟨W', t, w2, sf_te w4⟩
theorem s_cost (h : JX A a 4 V U) (c0 : 0 ≤ c) (c1 : c < U a 2 69) (hx : 0 ≤ x ∧ x ≤ 11) (hy : 0 ≤ y ∧ y ≤ 11) : ∃ (U' : dV) (r : Int), f_X12_costsAt U a c x y = (U', r) ∧ sf_fr a U U' := by
  obtain ⟨lx, -, hjd⟩ := JX_jd h
  have e7 := (ef9_n h.2.2.2.2.1.1).1
  obtain ⟨V', W', t, -, w2, -, w4, -⟩ := q_cost hjd c0 (by rw [e7]; exact c1) hx hy
  exact ⟨W', t, w2, sf_te w4⟩
theorem s_row (h : JX A a 4 V W) (c0 : 0 ≤ c) (c1 : c < W a 2 69) : ∃ U' : dV, dv_lp f_X12_laysPrices_12b (W, a, p, c, 0) = Sum.inl (U', a, p, c + 1) ∧ sf_fr a W U' := by
  refine dv_inv (b := f_X12_laysPrices_12b) (P := fun s => ∃ (U : dV) (j : Int), s = (U, a, p, c, j) ∧ 0 ≤ j ∧ sf_fr a W U) (Q := fun q => ∃ U' : dV, q = Sum.inl (U', a, p, c + 1) ∧ sf_fr a W U') (m := fun s => (144 - s.2.2.2.2).toNat) ?_ _ ⟨W, 0, rfl, by decide, sf_r⟩
  rintro q ⟨U, j, rfl, j0, hU⟩
  have hJ := JX_s h hU
  have e82 : f_X12_laysPrices_82 U a p c = Sum.inr (Sum.inl (U, a, p, c + 1)) := by
    unfold f_X12_laysPrices_82
    rw [bq]
  rw [f_X12_laysPrices_12e]
  unfold f_X12_laysPrices_12c
  by_cases e : 144 ≤ j
  · rw [if_pos e, e82]
    exact Or.inr ⟨_, rfl, U, rfl, hU⟩
  · rw [if_neg e, bq2]
    by_cases e1 : (f_X12_isIn U p c).1 = 0
    · rw [if_pos e1, e82]
      exact Or.inr ⟨_, rfl, U, rfl, hU⟩
    · obtain ⟨U1, r, b1, b2⟩ := s_bar hJ c0 (by rw [sf_2 hU]; exact c1) (x := j % 12) (y := j / 12) (by omega) (by omega)
      rw [if_neg e1, bq, bq, bq, bq, dv_bn2 b1]
      have hU1 := sf_t hU b2
      by_cases e2 : r = 0
      · obtain ⟨U2, r2, d1, d2⟩ := s_cost (JX_s h hU1) c0 (by rw [sf_2 hU1]; exact c1) (x := j % 12) (y := j / 12) (by omega) (by omega)
        rw [if_pos e2, dv_bn2 d1, bq, bq]
        exact Or.inl ⟨_, rfl, ⟨_, j + 1, rfl, by omega, sf_t (sf_t hU1 d2) (sf_u (by decide))⟩, by dsimp only; omega⟩
      · rw [if_neg e2, bq, bq]
        exact Or.inl ⟨_, rfl, ⟨_, j + 1, rfl, by omega, sf_t hU1 (sf_u (by decide))⟩, by dsimp only; omega⟩
theorem s_prices (h : JX A a 4 V W) : ∃ U' : dV, f_X12_laysPrices W a p = (U', 0) ∧ sf_fr a W U' := by
  unfold f_X12_laysPrices
  refine dv_inv (b := f_X12_laysPrices_2b) (P := fun s => ∃ (U : dV) (j : Int), s = (U, a, p, j) ∧ 0 ≤ j ∧ sf_fr a W U) (Q := fun q => ∃ U' : dV, q = (U', 0) ∧ sf_fr a W U') (m := fun s => (W a 2 69 - s.2.2.2).toNat) ?_ _ ⟨W, 0, rfl, by decide, sf_r⟩
  rintro q ⟨U, j, rfl, j0, hU⟩
  rw [f_X12_laysPrices_2e]
  unfold f_X12_laysPrices_2c
  rw [dv_bn2 q_many, sf_2 hU]
  by_cases e : W a 2 69 ≤ j
  · rw [if_pos e]
    exact Or.inr ⟨_, rfl, U, rfl, hU⟩
  · obtain ⟨U1, r1, r2⟩ := s_row (p := p) (JX_s h hU) j0 (by rw [sf_2 hU]; omega)
    rw [if_neg e, r1]
    exact Or.inl ⟨_, rfl, ⟨U1, j + 1, rfl, by omega, sf_t hU r2⟩, by dsimp only; omega⟩
theorem s_cover (h : JX A a 4 V W) : ∃ U' : dV, f_X12_laysCovered W a = (U', 0) ∧ sf_fr a W U' := by
  obtain ⟨-, -, -, -, ⟨hf, hk⟩, hi⟩ := h
  have hK := kf_at hf hk hi.2
  have hKb := hK.1
  obtain ⟨U, c1, c2, -⟩ := q_covered (V := W) (a := a) hKb (fun d d0 d1 hd => by
    have h1 := hK.2.2.2.1 d d0 (by simp only [kf, Int.zero_add]; exact d1) (by simp only [kf, Int.zero_add]; exact hd)
    have h2 := hKb.2.1.2
    have h3 := hKb.2.2.1.2
    simp only [kf, Int.zero_add] at h1 h2 h3
    omega) hK.2.1
  exact ⟨U, c1, sf_29 c2⟩
/-- a filling is noted -/
theorem s_25 : ∃ U' : dV, dv_lp f_X12_countsRow_25b (W, x, a, p, q, 0) = Sum.inl (U', a, p, q + 1) ∧ sf_fr a W U' := by
  refine dv_inv (b := f_X12_countsRow_25b) (P := fun s => ∃ (U : dV) (j : Int), s = (U, x, a, p, q, j) ∧ sf_fr a W U) (Q := fun r => ∃ U' : dV, r = Sum.inl (U', a, p, q + 1) ∧ sf_fr a W U') (m := fun s => (x * x - s.2.2.2.2.2).toNat) ?_ _ ⟨W, 0, rfl, sf_r⟩
  rintro s ⟨U, j, rfl, hU⟩
  rw [f_X12_countsRow_25e]
  unfold f_X12_countsRow_25c
  rw [bq]
  by_cases e : x * x ≤ j
  · rw [if_pos e, bq]
    exact Or.inr ⟨_, rfl, U, rfl, hU⟩
  · rw [if_neg e, bq, bq, bq, bq, bq, bq, bq, bq, bq, bq, bq, bq, bq]
    exact Or.inl ⟨_, rfl, ⟨_, j + 1, rfl, sf_t hU (sf_u (by decide))⟩, by dsimp only; omega⟩
theorem s_counts : ∃ U' : dV, f_X12_countsRow W a p = (U', 0) ∧ sf_fr a W U' := by
  unfold f_X12_countsRow
  refine dv_inv (b := f_X12_countsRow_2b) (P := fun s => ∃ (U : dV) (j : Int), s = (U, a, p, j) ∧ sf_fr a W U) (Q := fun r => ∃ U' : dV, r = (U', 0) ∧ sf_fr a W U') (m := fun s => (p - s.2.2.2).toNat) ?_ _ ⟨W, 0, rfl, sf_r⟩
  rintro s ⟨U, j, rfl, hU⟩
  rw [f_X12_countsRow_2e]
  unfold f_X12_countsRow_2c
  by_cases e : p ≤ j
  · rw [if_pos e]
    exact Or.inr ⟨_, rfl, U, rfl, hU⟩
  · obtain ⟨U1, r1, r2⟩ := s_25 (W := U) (a := a) (p := p) (q := j) (x := U a 2 (29 + U a 35 j))
    rw [if_neg e, bq, bq, bq, r1]
    exact Or.inl ⟨_, rfl, ⟨U1, j + 1, rfl, sf_t hU r2⟩, by dsimp only; omega⟩
theorem s_50 : ∃ U' : dV, f_X12_fills_50 W a p = (U', 0) ∧ sf_fr a W U' := by
  unfold f_X12_fills_50
  rw [bq]
  by_cases e : W a 41 0 ≤ 1
  · rw [if_pos e, bq]
    have h0 : sf_fr a W (dv_u W a 42 0 p) := sf_u (by decide)
    refine dv_inv (b := f_X12_fills_66b) (P := fun s => ∃ (U : dV) (j : Int), s = (U, a, p, j) ∧ sf_fr a W U) (Q := fun r => ∃ U' : dV, r = (U', 0) ∧ sf_fr a W U') (m := fun s => (p - s.2.2.2).toNat) ?_ _ ⟨_, 0, rfl, h0⟩
    rintro s ⟨U, j, rfl, hU⟩
    rw [f_X12_fills_66e]
    unfold f_X12_fills_66c
    by_cases e : p ≤ j
    · rw [if_pos e]
      exact Or.inr ⟨_, rfl, U, rfl, hU⟩
    · rw [if_neg e, bq, bq, bq]
      exact Or.inl ⟨_, rfl, ⟨_, j + 1, rfl, sf_t hU (sf_u (by decide))⟩, by dsimp only; omega⟩
  · rw [if_neg e]
    exact ⟨W, rfl, sf_r⟩
theorem s_16 : ∃ U' : dV, f_X12_fills_16 W a p q = (U', 0) ∧ sf_fr a W U' := by
  unfold f_X12_fills_16
  rw [bq, bq, bq, bq, dv_bn2 q_lesser, bq, bq]
  have h1 : sf_fr a W (dv_u (dv_u W a 41 0 (dv_add (W a 41 0) 1)) a 43 0 (min (dv_u W a 41 0 (dv_add (W a 41 0) 1) a 43 0) q)) := sf_t (sf_u (by decide)) (sf_u (by decide))
  generalize dv_u (dv_u W a 41 0 (dv_add (W a 41 0) 1)) a 43 0 (min (dv_u W a 41 0 (dv_add (W a 41 0) 1) a 43 0) q) = U at h1
  by_cases e : U a 44 0 = 0
  · obtain ⟨U1, r1, r2⟩ := s_50 (W := U) (a := a) (p := p)
    rw [if_pos e, r1]
    exact ⟨U1, rfl, sf_t h1 r2⟩
  · obtain ⟨U1, r1, r2⟩ := s_counts (W := U) (a := a) (p := p)
    obtain ⟨U2, r3, r4⟩ := s_50 (W := U1) (a := a) (p := p)
    rw [if_neg e, dv_bn2 r1, r3]
    exact ⟨U2, rfl, sf_t (sf_t h1 r2) r4⟩
theorem s_fills : ∃ U' : dV, f_X12_fills W a p q = (U', 0) ∧ sf_fr a W U' := by
  unfold f_X12_fills
  obtain ⟨U1, r1, r2⟩ := s_16 (W := W) (a := a) (p := p) (q := q)
  rw [bq, bq2]
  by_cases e : W a 44 0 = 0
  · rw [if_pos e]; exact ⟨U1, r1, r2⟩
  · rw [if_neg e]
    by_cases e1 : (f_X12_isSeenSo W a p).1 ≠ 0
    · rw [if_pos e1]; exact ⟨U1, r1, r2⟩
    · rw [if_neg e1]; exact ⟨W, rfl, sf_r⟩
/-- the sides are no less than 0 -/
def sd0 (a : Int) (W : dV) : Prop := W a 2 69 ≤ 9 ∧ ∀ c, 0 ≤ c → c < W a 2 69 → 0 ≤ W a 2 (29 + c)
theorem sd0_c (h : sd0 a W) (f : sf_fr a W W') : sd0 a W' := ⟨by rw [sf_2 f]; exact h.1, fun c c0 c1 => by rw [sf_2 f] at c1 ⊢; exact h.2 c c0 c1⟩
theorem s_goesB {d : Nat} {rc : dV → Int → Int → Int → Int → dR} (hrc : ∀ (W : dV) (p q k : Int), sd0 a W → cnt p < d → ∃ U' : dV, rc W a p q k = (U', 0) ∧ sf_fr a W U') (h : sd0 a W) (hc : cnt p ≤ d) : ∃ U' : dV, f_X12_goesOn_B d rc W a p q k = (U', 0) ∧ sf_fr a W U' := by
  have L : ∀ x6 x5 x4 : Int, ∃ U' : dV, dv_lp (f_X12_goesOn_59b d rc) (W, x6, x5, x4, a, p, q, k, 0) = (U', 0) ∧ sf_fr a W U' := by
    intro x6 x5 x4
    refine dv_inv (b := f_X12_goesOn_59b d rc) (P := fun s => ∃ (U : dV) (j : Int), s = (U, x6, x5, x4, a, p, q, k, j) ∧ 0 ≤ j ∧ sf_fr a W U) (Q := fun r => ∃ U' : dV, r = (U', 0) ∧ sf_fr a W U') (m := fun s => (9 - s.2.2.2.2.2.2.2.2).toNat) ?_ _ ⟨W, 0, rfl, by decide, sf_r⟩
    rintro s ⟨U, j, rfl, j0, hU⟩
    have hd := sd0_c h hU
    rw [f_X12_goesOn_59e]
    unfold f_X12_goesOn_59c
    rw [dv_bn2 q_many]
    by_cases e : U a 2 69 ≤ j
    · rw [if_pos e]
      exact Or.inr ⟨_, rfl, U, rfl, hU⟩
    · have j9 : j < 9 := by have := hd.1; omega
      have NXT : (Sum.inl (U, x6, x5, x4, a, p, q, k, j + 1) : Sum (dV × Int × Int × Int × Int × Int × Int × Int × Int) dR) = Sum.inl (U, x6, x5, x4, a, p, q, k, j + 1) := rfl
      rw [if_neg e, dv_bn2 (q_isIn j0 (by omega))]
      by_cases e1 : qb p j.toNat = true
      · rw [if_pos e1, if_neg (show ¬ (1 : Int) = 0 by decide), bq2]
        by_cases e2 : (f_X12_priceAt U a j x4).1 = -1
        · rw [if_pos e2, bq]
          exact Or.inl ⟨_, rfl, ⟨U, j + 1, rfl, by omega, hU⟩, by dsimp only; omega⟩
        · rw [if_neg e2, bq, bq, bq, bq, bq2]
          by_cases e3 : (f_X12_isFree U a (U a 2 (29 + j)) x5 x6 (U a 39 0) (U a 40 0)).1 ≠ 0
          · have s0 : 0 ≤ U a 2 (29 + j) := hd.2 j j0 (by omega)
            obtain ⟨U1, t1, t2, -⟩ := q_turns (V := U) (a := a) (s := U a 2 (29 + j)) (x := x5) (y := x6) s0
            have F1 := sf_t (sf_t (sf_29 t2) (sf_u (W := U1) (a := a) (m := 35) (z := q) (y := j) (by decide))) (sf_u (m := 36) (z := q) (y := x4) (by decide))
            obtain ⟨U2, g1, g2⟩ := hrc (dv_u (dv_u U1 a 35 q j) a 36 q x4) (dv_and p (dv_xor (dv_shl 1 j) (-1))) (q + 1) (dv_add k (f_X12_priceAt (dv_u (dv_u U1 a 35 q j) a 36 q x4) a j x4).1) (sd0_c hd F1) (by have := cnt_off j0 j9 e1; omega)
            have F2 := sf_t F1 g2
            have s2 : 0 ≤ U2 a 2 (29 + j) := by rw [sf_2 F2]; exact s0
            obtain ⟨U3, t3, t4, -⟩ := q_turns (V := U2) (a := a) (s := U2 a 2 (29 + j)) (x := x5) (y := x6) s2
            rw [if_pos e3, bq, bq, dv_bn2 t1, bq, bq, bq, bq, bq, bq, bq2, bq, dv_bn2 g1, bq, bq, dv_bn2 t3, bq]
            exact Or.inl ⟨_, rfl, ⟨U3, j + 1, rfl, by omega, sf_t hU (sf_t F2 (sf_29 t4))⟩, by dsimp only; omega⟩
          · rw [if_neg e3, bq]
            exact Or.inl ⟨_, rfl, ⟨U, j + 1, rfl, by omega, hU⟩, by dsimp only; omega⟩
      · rw [if_neg e1, if_pos rfl, bq]
        exact Or.inl ⟨_, rfl, ⟨U, j + 1, rfl, by omega, hU⟩, by dsimp only; omega⟩
  have K : ∃ U' : dV, f_X12_goesOn_15 d rc W a p q k = (U', 0) ∧ sf_fr a W U' := by
    unfold f_X12_goesOn_15
    rw [bq, bq, bq2]
    by_cases e : (f_X12_firstBare W a (W a 39 0) (W a 40 0)).1 ≠ -1
    · rw [if_pos e, bq, bq]
      exact L _ _ _
    · obtain ⟨U1, r1, r2⟩ := s_fills (W := W) (a := a) (p := q) (q := k)
      rw [if_neg e, dv_bn2 r1]
      exact ⟨U1, rfl, r2⟩
  unfold f_X12_goesOn_B
  rw [bq]
  by_cases e : W a 45 0 = 0
  · rw [if_pos e]; exact K
  · rw [if_neg e, bq]
    by_cases e1 : W a 41 0 ≤ 0
    · rw [if_pos e1]; exact K
    · rw [if_neg e1]; exact ⟨W, rfl, sf_r⟩
theorem s_goes : ∀ (d : Nat) (W : dV) (p q k : Int), sd0 a W → cnt p ≤ d → ∃ U' : dV, f_X12_goesOn d W a p q k = (U', 0) ∧ sf_fr a W U' := by
  intro d
  induction d with
  | zero =>
    intro W p q k h hc
    exact s_goesB (rc := fun _ _ _ _ _ => dv_z) (fun W p q k _ hl => absurd hl (by omega)) h hc
  | succ d ih =>
    intro W p q k h hc
    exact s_goesB (rc := f_X12_goesOn d) (fun W p q k hs hl => ih W p q k hs (by omega)) h hc
theorem s_through {w h : Int} (hs : sd0 a W) : ∃ U' : dV, f_X12_goesThrough W a p w h = (U', 0) ∧ sf_fr a W U' := by
  unfold f_X12_goesThrough
  rw [bq, bq, bq, bq, bq]
  have h1 : sf_fr a W (dv_u (dv_u (dv_u (dv_u (dv_u W a 39 0 w) a 40 0 h) a 41 0 0) a 42 0 0) a 43 0 1000000) := sf_t (sf_t (sf_t (sf_t (sf_u (by decide)) (sf_u (by decide))) (sf_u (by decide))) (sf_u (by decide))) (sf_u (by decide))
  obtain ⟨U, r1, r2⟩ := s_goes 9 _ p 0 0 (sd0_c hs h1) cnt_9
  rw [dv_bn2 r1]
  exact ⟨U, rfl, sf_t h1 r2⟩
theorem JX_sd (h : JX A a 4 V W) : sd0 a W := by
  obtain ⟨-, -, -, -, ⟨hf, hk⟩, -⟩ := h
  obtain ⟨e7, -, -, -, -, -, ec⟩ := ef9_n hf
  have n9 := hk.1.1
  refine ⟨by omega, fun c c0 c1 => ?_⟩
  rw [← (ec c c0 (by omega)).1]
  exact (hk.1.2.2.2 c c0 (by omega)).1.1
theorem s_now (h : JX A a 4 V W) : ∃ U' : dV, f_X12_fillsNow W a p = (U', 0) ∧ sf_fr a W U' := by
  obtain ⟨U1, a1, b1⟩ := s_prices (p := (f_X12_rolledWhole W a).1) h
  obtain ⟨U2, a2, b2⟩ := s_cover (JX_s h b1)
  have F2 := sf_t b1 b2
  have F4 : sf_fr a W (dv_u (dv_u U2 a 44 0 p) a 45 0 0) := sf_t F2 (sf_t (sf_u (by decide)) (sf_u (by decide)))
  obtain ⟨U3, a3, b3⟩ := s_through (p := (f_X12_rolledWhole W a).1) (w := dv_u (dv_u U2 a 44 0 p) a 45 0 0 a 2 67) (h := dv_u (dv_u U2 a 44 0 p) a 45 0 0 a 2 68) (sd0_c (JX_sd h) F4)
  unfold f_X12_fillsNow
  rw [bq2, dv_bn2 a1, dv_bn2 a2, bq, bq, bq, bq, dv_bn2 a3]
  exact ⟨U3, rfl, sf_t F4 b3⟩
end QTS
section QTT
variable {V V' U U' W W' W0 W1 W2 : dV} {a x y c p q k : Int} {A : Nat → Int} {i : Nat}
theorem F_fill (h : JX A a 4 V W) : ∃ (W' : dV) (u : Int), f_X12_fill W a p = (W', u) ∧ sf_fr a W W' := by
  unfold f_X12_fill
  by_cases e : -1 ≤ p
  · obtain ⟨U, r1, r2⟩ := s_now (p := 0) h
    rw [if_pos e, dv_bn2 r1, bq]
    by_cases e1 : U a 41 0 ≠ 0
    · rw [if_pos e1]
      by_cases e2 : p ≠ -1
      · rw [if_pos e2, bq]
        by_cases e3 : U a 42 0 ≤ p
        · rw [if_pos e3]; exact ⟨U, _, rfl, r2⟩
        · rw [if_neg e3, bq]; exact ⟨U, _, rfl, r2⟩
      · rw [if_neg e2, bq]; exact ⟨U, _, rfl, r2⟩
    · rw [if_neg e1]; exact ⟨U, _, rfl, r2⟩
  · rw [if_neg e]; exact ⟨W, _, rfl, sf_r⟩
theorem F_ways (h : JX A a 4 V W) : ∃ (W' : dV) (u : Int), f_X12_ways W a = (W', u) ∧ sf_fr a W W' := by
  obtain ⟨U, r1, r2⟩ := s_now (p := 0) h
  unfold f_X12_ways
  rw [dv_bn2 r1, bq]
  exact ⟨U, _, rfl, r2⟩
theorem F_cheapest (h : JX A a 4 V W) : ∃ (W' : dV) (u : Int), f_X12_cheapest W a = (W', u) ∧ sf_fr a W W' := by
  obtain ⟨U, r1, r2⟩ := s_now (p := 0) h
  unfold f_X12_cheapest
  rw [dv_bn2 r1, bq]
  by_cases e : U a 41 0 ≠ 0
  · rw [if_pos e, bq]; exact ⟨U, _, rfl, r2⟩
  · rw [if_neg e]; exact ⟨U, _, rfl, r2⟩
theorem s_can {w g : Int} (hs : sd0 a W) : ∃ (U' : dV) (u : Int), f_X12_canFill W a p w g = (U', u) ∧ sf_fr a W U' := by
  unfold f_X12_canFill
  refine dv_inv (b := f_X12_canFill_3b) (P := fun s => ∃ (U : dV) (j : Int), s = (U, a, p, w, g, j) ∧ sf_fr a W U) (Q := fun r => ∃ (U' : dV) (u : Int), r = (U', u) ∧ sf_fr a W U') (m := fun s => (12 - s.2.2.2.2.2).toNat) ?_ _ ⟨W, 0, rfl, sf_r⟩
  rintro s ⟨U, j, rfl, hU⟩
  rw [f_X12_canFill_3e]
  unfold f_X12_canFill_3c
  by_cases e : 12 ≤ j
  · obtain ⟨U1, r1, r2⟩ := s_through (p := p) (w := w) (h := g) (sd0_c hs hU)
    rw [if_pos e, dv_bn2 r1, bq]
    by_cases e1 : U1 a 41 0 ≤ 0
    · rw [if_pos e1]; exact Or.inr ⟨_, rfl, U1, _, rfl, sf_t hU r2⟩
    · rw [if_neg e1]; exact Or.inr ⟨_, rfl, U1, _, rfl, sf_t hU r2⟩
  · rw [if_neg e, bq, bq]
    exact Or.inl ⟨_, rfl, ⟨_, j + 1, rfl, sf_t hU (sf_u (by decide))⟩, by dsimp only; omega⟩
theorem F_floors0 (h : JX A a 4 V W) : ∃ W' : dV, f_X12_laysFloors W a = (W', 0) ∧ sf_fr a W W' := by
  unfold f_X12_laysFloors
  refine dv_inv (b := f_X12_laysFloors_2b) (P := fun s => ∃ (U : dV) (j : Int), s = (U, a, j) ∧ sf_fr a W U) (Q := fun r => ∃ U' : dV, r = (U', 0) ∧ sf_fr a W U') (m := fun s => (1296 - s.2.2).toNat) ?_ _ ⟨W, 0, rfl, sf_r⟩
  rintro s ⟨U, j, rfl, hU⟩
  rw [f_X12_laysFloors_2e]
  unfold f_X12_laysFloors_2c
  by_cases e : 1296 ≤ j
  · obtain ⟨U1, r1, r2⟩ := s_now (p := 1) (JX_s h hU)
    rw [if_pos e, dv_bn2 r1]
    exact Or.inr ⟨_, rfl, U1, rfl, sf_t hU r2⟩
  · rw [if_neg e, bq, bq]
    exact Or.inl ⟨_, rfl, ⟨_, j + 1, rfl, sf_t hU (sf_u (by decide))⟩, by dsimp only; omega⟩
theorem F_floors (h : JX A a 4 V W) : ∃ (W' : dV) (u : Int), f_X12_floors W a = (W', u) ∧ sf_fr a W W' := by
  obtain ⟨U, r1, r2⟩ := F_floors0 h
  unfold f_X12_floors
  rw [dv_bn2 r1, bq]
  exact ⟨U, _, rfl, r2⟩
theorem F_look (h : JX A a 4 V W) : ∃ (W' : dV) (u : Int), f_X12_look W a p = (W', u) ∧ sf_fr a W W' := by
  unfold f_X12_look
  rw [bq2]
  by_cases e : (f_X12_lies W p 0 2).1 ≠ 0
  · obtain ⟨U, r1, r2⟩ := F_floors0 h
    rw [if_pos e, dv_bn2 r1]
    have E72 : ∀ j2 j3 : Int, ∃ u, f_X12_look_72 U p j2 j3 = Sum.inr (U, u) := by
      intro j2 j3
      unfold f_X12_look_72
      by_cases e1 : j2 ≠ -1
      · rw [if_pos e1]
        by_cases e2 : p ≠ 0
        · rw [if_pos e2]
          by_cases e3 : p ≠ 1
          · rw [if_pos e3]; exact ⟨_, rfl⟩
          · rw [if_neg e3, bq]; exact ⟨_, rfl⟩
        · rw [if_neg e2, bq]; exact ⟨_, rfl⟩
      · rw [if_neg e1]; exact ⟨_, rfl⟩
    refine dv_inv (b := f_X12_look_23b) (P := fun s => ∃ (j2 j3 j4 : Int), s = (U, a, p, j2, j3, j4)) (Q := fun r => ∃ (U' : dV) (u : Int), r = (U', u) ∧ sf_fr a W U') (m := fun s => (144 - s.2.2.2.2.2).toNat) ?_ _ ⟨_, _, _, rfl⟩
    rintro s ⟨j2, j3, j4, rfl⟩
    have E66 : ∀ b2 b3 : Int, f_X12_look_66 U a p j4 b2 b3 = Sum.inl (U, a, p, b2, b3, j4 + 1) := fun b2 b3 => by
      unfold f_X12_look_66
      rw [bq]
    obtain ⟨u, hu⟩ := E72 j2 j3
    rw [f_X12_look_23e]
    unfold f_X12_look_23c
    by_cases e1 : 144 ≤ j4
    · rw [if_pos e1, hu]
      exact Or.inr ⟨_, rfl, U, u, rfl, r2⟩
    · rw [if_neg e1, bq]
      by_cases e2 : U a 41 0 ≤ 0
      · rw [if_pos e2, hu]
        exact Or.inr ⟨_, rfl, U, u, rfl, r2⟩
      · rw [if_neg e2, bq2]
        by_cases e3 : (f_X12_mostAt U a j4).1 = 0
        · rw [if_pos e3, E66]
          exact Or.inl ⟨_, rfl, ⟨_, _, _, rfl⟩, by dsimp only; omega⟩
        · rw [if_neg e3]
          by_cases e4 : (f_X12_mostAt U a j4).1 < j3
          · rw [if_pos e4, E66]
            exact Or.inl ⟨_, rfl, ⟨_, _, _, rfl⟩, by dsimp only; omega⟩
          · rw [if_neg e4, E66]
            exact Or.inl ⟨_, rfl, ⟨_, _, _, rfl⟩, by dsimp only; omega⟩
  · rw [if_neg e]; exact ⟨W, _, rfl, sf_r⟩
theorem F_halls (h : JX A a 4 V W) : ∃ (W' : dV) (u : Int), f_X12_halls W a p = (W', u) ∧ sf_fr a W W' := by
  unfold f_X12_halls
  by_cases e : -1 ≤ p
  case neg =>
    rw [if_neg e]; exact ⟨W, _, rfl, sf_r⟩
  rw [if_pos e]
  have L93 : ∀ (U : dV) (m2 m3 : Int), sd0 a U → sf_fr a W U → ∃ (U' : dV) (u : Int), dv_lp f_X12_halls_93b (U, a, p, m2, m3, 0, 1) = Sum.inr (U', u) ∧ sf_fr a W U' := by
    intro U0 m2 m3 hs hU0
    refine dv_inv (b := f_X12_halls_93b) (P := fun s => ∃ (U : dV) (j4 j5 : Int), s = (U, a, p, m2, m3, j4, j5) ∧ sd0 a U ∧ sf_fr a W U) (Q := fun r => ∃ (U' : dV) (u : Int), r = Sum.inr (U', u) ∧ sf_fr a W U') (m := fun s => (13 - s.2.2.2.2.2.2).toNat) ?_ _ ⟨U0, 0, 1, rfl, hs, hU0⟩
    rintro s ⟨U, j4, j5, rfl, hd, hU⟩
    have E156 : ∀ (T : dV) (b : Int), f_X12_halls_156 T a p m2 m3 j5 b = Sum.inl (T, a, p, m2, m3, b, j5 + 1) := fun T b => by
      unfold f_X12_halls_156
      rw [bq]
    rw [f_X12_halls_93e]
    unfold f_X12_halls_93c
    by_cases e1 : 12 < j5
    · rw [if_pos e1]
      by_cases e2 : p ≠ -1
      · rw [if_pos e2]; exact Or.inr ⟨_, rfl, U, _, rfl, hU⟩
      · rw [if_neg e2]; exact Or.inr ⟨_, rfl, U, _, rfl, hU⟩
    · rw [if_neg e1, bq, bq]
      by_cases e2 : m3 ≠ j5 * (m3 / j5)
      · rw [if_pos e2, E156]
        exact Or.inl ⟨_, rfl, ⟨U, _, _, rfl, hd, hU⟩, by dsimp only; omega⟩
      · rw [if_neg e2, bq2]
        by_cases e3 : (f_X12_isSide U (m3 / j5)).1 = 0
        · rw [if_pos e3, E156]
          exact Or.inl ⟨_, rfl, ⟨U, _, _, rfl, hd, hU⟩, by dsimp only; omega⟩
        · obtain ⟨U1, r, r1, r2⟩ := s_can (p := m2) (w := j5) (g := m3 / j5) hd
          have hd1 := sd0_c hd r2
          have hU1 := sf_t hU r2
          rw [if_neg e3, dv_bn2 r1]
          by_cases e4 : r ≠ 0
          · rw [if_pos e4]
            by_cases e5 : j4 ≠ p
            · rw [if_pos e5, bq, E156]
              exact Or.inl ⟨_, rfl, ⟨U1, _, _, rfl, hd1, hU1⟩, by dsimp only; omega⟩
            · rw [if_neg e5, bq, bq]
              exact Or.inr ⟨_, rfl, U1, _, rfl, hU1⟩
          · rw [if_neg e4, E156]
            exact Or.inl ⟨_, rfl, ⟨U1, _, _, rfl, hd1, hU1⟩, by dsimp only; omega⟩
  refine dv_inv (b := f_X12_halls_14b) (P := fun s => ∃ (j2 j3 j4 : Int), s = (W, a, p, j2, j3, j4)) (Q := fun r => ∃ (U' : dV) (u : Int), r = (U', u) ∧ sf_fr a W U') (m := fun s => (W a 2 69 - s.2.2.2.2.2).toNat) ?_ _ ⟨0, 0, 0, rfl⟩
  rintro s ⟨j2, j3, j4, rfl⟩
  have E66 : ∀ b2 b3 : Int, f_X12_halls_66 W a p j4 b2 b3 = Sum.inl (W, a, p, b2, b3, j4 + 1) := fun b2 b3 => by
    unfold f_X12_halls_66
    rw [bq]
  rw [f_X12_halls_14e]
  unfold f_X12_halls_14c
  rw [dv_bn2 q_many]
  by_cases e1 : W a 2 69 ≤ j4
  · obtain ⟨U1, r1, r2⟩ := s_prices (p := j2) h
    have F : sf_fr a W (dv_u (dv_u U1 a 44 0 0) a 45 0 1) := sf_t r2 (sf_t (sf_u (by decide)) (sf_u (by decide)))
    obtain ⟨U2, u, z1, z2⟩ := L93 _ j2 j3 (sd0_c (JX_sd h) F) F
    rw [if_pos e1, dv_bn2 r1, bq, bq, z1]
    exact Or.inr ⟨_, rfl, U2, u, rfl, z2⟩
  · rw [if_neg e1, bq2]
    by_cases e2 : (f_X12_isWhole W a j4).1 ≠ 0
    · rw [if_pos e2, bq, bq, bq, bq, bq, bq, bq, bq, E66]
      exact Or.inl ⟨_, rfl, ⟨_, _, _, rfl⟩, by dsimp only; omega⟩
    · rw [if_neg e2, E66]
      exact Or.inl ⟨_, rfl, ⟨_, _, _, rfl⟩, by dsimp only; omega⟩
theorem F_bare (h : JX A a 4 V W) : ∃ (W' : dV) (u : Int), f_X12_bare W a p = (W', u) ∧ sf_fr a W W' := by
  unfold f_X12_bare
  rw [bq2]
  by_cases e : (f_X12_lies W p 0 2).1 ≠ 0
  · rw [if_pos e]
    by_cases e1 : p ≠ 0
    · obtain ⟨U, r1, r2⟩ := s_cover h
      rw [if_pos e1, dv_bn2 r1, bq, bq, bq2]
      by_cases e2 : (f_X12_firstBare U a (U a 2 67) (U a 2 68)).1 ≠ -1
      · rw [if_pos e2]
        by_cases e3 : p ≠ 1
        · rw [if_pos e3, bq]; exact ⟨U, _, rfl, r2⟩
        · rw [if_neg e3, bq]; exact ⟨U, _, rfl, r2⟩
      · rw [if_neg e2]; exact ⟨U, _, rfl, r2⟩
    · rw [if_neg e1, bq2]; exact ⟨W, _, rfl, sf_r⟩
  · rw [if_neg e]; exact ⟨W, _, rfl, sf_r⟩
theorem F_fitting (h : JX A a 4 V W) : ∃ (W' : dV) (u : Int), f_X12_fitting W a p = (W', u) ∧ sf_fr a W W' := by
  unfold f_X12_fitting
  rw [bq2]
  by_cases e : (f_X12_isSide W p).1 ≠ 0
  case neg =>
    rw [if_neg e]; exact ⟨W, _, rfl, sf_r⟩
  obtain ⟨U, r1, r2⟩ := s_cover h
  rw [if_pos e, dv_bn2 r1]
  have L31 : ∀ j3 j2 : Int, ∃ t : Int, dv_lp f_X12_fitting_31b (U, a, p, j3, j2, 0) = Sum.inl (U, a, p, t, j3 + 1) := by
    intro j3 j2
    refine dv_inv (b := f_X12_fitting_31b) (P := fun s => ∃ (b2 j4 : Int), s = (U, a, p, j3, b2, j4)) (Q := fun r => ∃ t : Int, r = Sum.inl (U, a, p, t, j3 + 1)) (m := fun s => (U a 2 68 - s.2.2.2.2.2).toNat) ?_ _ ⟨j2, 0, rfl⟩
    rintro s ⟨b2, j4, rfl⟩
    have E74 : ∀ v : Int, f_X12_fitting_74 U a p j3 j4 b2 v = Sum.inl (U, a, p, j3, dv_add b2 v, j4 + 1) := fun v => by
      unfold f_X12_fitting_74
      rw [bq, bq]
    rw [f_X12_fitting_31e]
    unfold f_X12_fitting_31c
    rw [bq]
    by_cases e1 : U a 2 68 ≤ j4
    · rw [if_pos e1, bq]; exact Or.inr ⟨_, rfl, _, rfl⟩
    · rw [if_neg e1, bq, bq, bq2]
      by_cases e2 : (f_X12_isFree U a p j3 j4 (U a 2 67) (U a 2 68)).1 = 0
      · rw [if_pos e2, E74]; exact Or.inl ⟨_, rfl, ⟨_, _, rfl⟩, by dsimp only; omega⟩
      · rw [if_neg e2, E74]; exact Or.inl ⟨_, rfl, ⟨_, _, rfl⟩, by dsimp only; omega⟩
  refine dv_inv (b := f_X12_fitting_17b) (P := fun s => ∃ (b2 j3 : Int), s = (U, a, p, b2, j3)) (Q := fun r => ∃ (U' : dV) (u : Int), r = (U', u) ∧ sf_fr a W U') (m := fun s => (U a 2 67 - s.2.2.2.2).toNat) ?_ _ ⟨0, 0, rfl⟩
  rintro s ⟨b2, j3, rfl⟩
  rw [f_X12_fitting_17e]
  unfold f_X12_fitting_17c
  rw [bq]
  by_cases e1 : U a 2 67 ≤ j3
  · rw [if_pos e1]; exact Or.inr ⟨_, rfl, U, _, rfl, r2⟩
  · obtain ⟨t, ht⟩ := L31 j3 b2
    rw [if_neg e1, ht]
    exact Or.inl ⟨_, rfl, ⟨_, _, rfl⟩, by dsimp only; omega⟩
end QTT
section QTU
variable {V V' U U' W W' W0 W1 W2 : dV} {a x y c p q k : Int} {A : Nat → Int} {i : Nat}
/-- another law in force -/
theorem RR_fc (h : RR A a V W) (e : -1 ≤ p ∧ p < W a 2 71) : RR A a (dv_u V (A 1) 6 0 p) (dv_u W a 2 72 p) := by
  have hA := h.1
  obtain ⟨-, -, ⟨-, k2, k3⟩, -⟩ := id h
  obtain ⟨l1, l2, l3, l4, l5⟩ := id k3
  have l1 : V (A 1) 5 0 = W a 2 71 := by have := l1; rw [Int.zero_add] at this; exact this
  have l2 : 0 ≤ V (A 1) 5 0 ∧ V (A 1) 5 0 ≤ 6 := l2
  have n1 : ∀ {i : Nat}, i < 38 → i ≠ 1 → ∀ m z, dv_u V (A 1) 6 0 p (A i) m z = V (A i) m z := fun hi hn m z => u_b (inj_n hA hi (by decide) hn)
  refine RR_st h (cf_u hA (by decide) rfl) (wf_u rfl) (fun z hz => u_i (by omega)) (seR_c k2 (u_j (by decide)) (fun z _ _ => ⟨u_j (by decide), u_j (by decide), u_j (by decide)⟩) (fun z hz => u_i (by omega))) ⟨?_, ?_, ?_, ?_, fun t ht => ?_⟩
  · show dv_u V (A 1) 6 0 p (A 1) 5 0 = dv_u W a 2 72 p a 2 71
    rw [u_j (by decide), u_i (by decide), l1]
  · show 0 ≤ dv_u V (A 1) 6 0 p (A 1) 5 0 ∧ dv_u V (A 1) 6 0 p (A 1) 5 0 ≤ 6
    rw [u_j (by decide)]; exact l2
  · show dv_u V (A 1) 6 0 p (A 1) 6 0 = dv_u W a 2 72 p a 2 72
    rw [u_e, u_e]
  · show -1 ≤ dv_u V (A 1) 6 0 p (A 1) 6 0 ∧ dv_u V (A 1) 6 0 p (A 1) 6 0 < dv_u V (A 1) 6 0 p (A 1) 5 0
    rw [u_e, u_j (by decide), l1]; exact e
  · have ht : (t : Int) < dv_u V (A 1) 6 0 p (A 1) 5 0 := ht
    rw [u_j (by decide)] at ht
    exact txR_c (by omega) (by omega) (l5 t ht) (fun z _ => n1 (by omega) (by omega) 0 z) (fun z _ _ => n1 (by omega) (by omega) 1 z) (n1 (by omega) (by omega) 2 0) (n1 (by omega) (by omega) 3 0) (fun z hz => u_i (by omega))
/-- what the reference's search changes, where it puts back what is kept -/
def sk_fr (a : Int) (W W' : dV) : Prop := (∀ b m z, ¬ (b = a ∧ (m = 2 ∨ (22 ≤ m ∧ m ≤ 26) ∨ (29 ≤ m ∧ m ≤ 30) ∨ (34 ≤ m ∧ m ≤ 45))) → W' b m z = W b m z) ∧ ∀ z, W' a 2 z = W a 2 z
theorem sk_r : sk_fr a W W := ⟨fun _ _ _ _ => rfl, fun _ => rfl⟩
theorem sk_t (h : sk_fr a W W') (k : sk_fr a W' W1) : sk_fr a W W1 := ⟨fun b m z q => (k.1 b m z q).trans (h.1 b m z q), fun z => (k.2 z).trans (h.2 z)⟩
theorem sk_s (h : sf_fr a W W') : sk_fr a W W' := ⟨fun b m z q => h b m z (fun w => q ⟨w.1, Or.inr w.2⟩), sf_2 h⟩
theorem RR_sk (h : RR A a V W) (f : sk_fr a W W') : RR A a V W' := by
  refine RR_idle h cf_r (fun m z hm => f.1 a m z (fun q => ?_)) (fun _ _ => rfl) (fun _ _ _ _ => rfl) (fun _ => ⟨rfl, rfl⟩) f.2 (fun z => f.1 a 31 z (fun q => absurd q.2 (by omega))) (f.1 a 33 0 (fun q => absurd q.2 (by omega)))
  unfold M_a at hm
  simp only [Bool.or_eq_false_iff, Bool.and_eq_false_iff, beq_eq_false_iff_ne, decide_eq_false_iff_not, ne_eq] at hm
  omega
theorem F_compare (h : RR A a V W) : ∃ (W' : dV) (u : Int), f_X12_compare W a p = (W', u) ∧ sk_fr a W W' := by
  unfold f_X12_compare
  rw [bq2, q_isLaw]
  dsimp only
  by_cases e : -1 ≤ p ∧ p < W a 2 71
  · obtain ⟨U, u, r1, r2⟩ := F_cheapest (RR_JX (RR_fc h e))
    rw [if_pos e, if_pos (by decide), bq, bq, dv_bn2 r1, bq]
    refine ⟨_, _, rfl, fun b m z q => ?_, fun z => ?_⟩
    · have h1 : r2 = r2 := rfl
      have e1 : dv_u U a 2 72 (W a 2 72) b m z = U b m z := by
        unfold dv_u; rw [if_neg (fun w => q ⟨w.1, Or.inl w.2.1⟩)]
      have e2 : dv_u W a 2 72 p b m z = W b m z := by
        unfold dv_u; rw [if_neg (fun w => q ⟨w.1, Or.inl w.2.1⟩)]
      rw [e1, r2 b m z (fun w => q ⟨w.1, Or.inr w.2⟩), e2]
    · rw [u_if]
      by_cases e1 : z = 72
      · rw [if_pos e1, e1]
      · rw [if_neg e1, sf_2 r2, u_i e1]
  · rw [if_neg e, if_neg (fun w => w rfl)]
    exact ⟨W, _, rfl, sk_r⟩
theorem s_mov (h : RR A a V W) (c0 : 0 ≤ c) (c1 : c < W a 2 69) : ∃ (W' : dV) (u : Int), f_X12_isMovable W a c = (W', u) ∧ sk_fr a W W' := by
  have e7 := (RR_n h).2.1
  have n9 := (RR_n h).1.1.1
  obtain ⟨U, r1, r2⟩ := s_now (p := 0) (RR_JX (RR_roll (c := c) h ⟨c0, by omega⟩))
  have F : sk_fr a W (dv_u (dv_u U a 2 (9 + c) (W a 2 (9 + c))) a 2 (18 + c) (W a 2 (18 + c))) := by
    refine ⟨fun b m z q => ?_, fun z => ?_⟩
    · have e1 : ∀ (T : dV) (i v : Int), dv_u T a 2 i v b m z = T b m z := fun T i v => by
        unfold dv_u; rw [if_neg (fun w => q ⟨w.1, Or.inl w.2.1⟩)]
      rw [e1, e1, r2 b m z (fun w => q ⟨w.1, Or.inr w.2⟩), e1, e1]
    · rw [u_if, u_if, sf_2 r2, u_if, u_if]
      by_cases q1 : z = 18 + c
      · rw [if_pos q1, q1]
      · rw [if_neg q1, if_neg q1]
        by_cases q2 : z = 9 + c
        · rw [if_pos q2, q2]
        · rw [if_neg q2, if_neg q2]
  unfold f_X12_isMovable
  rw [bq, bq, bq, bq, dv_bn2 m_rolls, dv_bn2 r1, bq, bq, bq, bq, bq]
  by_cases e1 : dv_u (dv_u U a 2 (9 + c) (W a 2 (9 + c))) a 2 (18 + c) (W a 2 (18 + c)) a 41 0 ≠ 1
  · rw [if_pos e1]; exact ⟨_, _, rfl, F⟩
  · rw [if_neg e1, bq]
    by_cases e2 : dv_u (dv_u U a 2 (9 + c) (W a 2 (9 + c))) a 2 (18 + c) (W a 2 (18 + c)) a 42 0 ≠ 1
    · rw [if_pos e2]; exact ⟨_, _, rfl, F⟩
    · rw [if_neg e2, bq]
      by_cases e3 : dv_u (dv_u U a 2 (9 + c) (W a 2 (9 + c))) a 2 (18 + c) (W a 2 (18 + c)) a 37 0 = c
      · rw [if_pos e3]; exact ⟨_, _, rfl, F⟩
      · rw [if_neg e3]; exact ⟨_, _, rfl, F⟩
theorem F_free (h : RR A a V W) : ∃ (W' : dV) (u : Int), f_X12_free W a = (W', u) ∧ sk_fr a W W' := by
  unfold f_X12_free
  refine dv_inv (b := f_X12_free_4b) (P := fun s => ∃ (U : dV) (j1 j2 : Int), s = (U, a, j1, j2) ∧ 0 ≤ j2 ∧ sk_fr a W U) (Q := fun r => ∃ (U' : dV) (u : Int), r = (U', u) ∧ sk_fr a W U') (m := fun s => (W a 2 69 - s.2.2.2).toNat) ?_ _ ⟨W, 0, 0, rfl, by decide, sk_r⟩
  rintro s ⟨U, j1, j2, rfl, j0, hU⟩
  rw [f_X12_free_4e]
  unfold f_X12_free_4c
  rw [dv_bn2 q_many, hU.2]
  by_cases e : W a 2 69 ≤ j2
  · rw [if_pos e]; exact Or.inr ⟨_, rfl, U, _, rfl, hU⟩
  · rw [if_neg e, bq2]
    by_cases e1 : (f_X12_isLaid U a j2).1 = 0
    · rw [if_pos e1, bq, bq]
      exact Or.inl ⟨_, rfl, ⟨U, _, _, rfl, by omega, hU⟩, by dsimp only; omega⟩
    · obtain ⟨U1, u, r1, r2⟩ := s_mov (RR_sk h hU) j0 (by rw [hU.2]; omega)
      have hU1 := sk_t hU r2
      rw [if_neg e1, dv_bn2 r1]
      by_cases e2 : u = 0
      · rw [if_pos e2, bq, bq]
        exact Or.inl ⟨_, rfl, ⟨U1, _, _, rfl, by omega, hU1⟩, by dsimp only; omega⟩
      · rw [if_neg e2, bq, bq, bq]
        exact Or.inl ⟨_, rfl, ⟨U1, _, _, rfl, by omega, hU1⟩, by dsimp only; omega⟩
end QTU
