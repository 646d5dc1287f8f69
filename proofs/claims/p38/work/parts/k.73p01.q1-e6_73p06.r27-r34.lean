section
section QB
theorem bq {α β : Type} {e : α} {k : α → β} : dv_b e k = k e := congrFun (rfl : dv_b e = fun k : α → β => k e) k
theorem bq2 {α β γ : Type} {p : α × β} {k : α → β → γ} : dv_b2 p k = k p.1 p.2 := congrFun (rfl : dv_b2 p = fun k : α → β → γ => k p.1 p.2) k
theorem qi0 {P : Prop} [Decidable P] {α : Type} {A B : α} : (if (if P then (1 : Int) else 0) = 0 then A else B) = if P then B else A := by
  by_cases h : P
  · rw [if_pos h, if_pos h]; rfl
  · rw [if_neg h, if_neg h]; rfl
theorem qi1 {P : Prop} [Decidable P] {α : Type} {A B : α} : (if (if P then (1 : Int) else 0) ≠ 0 then A else B) = if P then A else B := by
  by_cases h : P
  · rw [if_pos h, if_pos h]; rfl
  · rw [if_neg h, if_neg h]; rfl
theorem qi2 {P : Prop} [Decidable P] {α : Type} {A B : α} : (if (if P then (0 : Int) else 1) = 0 then A else B) = if P then A else B := by
  by_cases h : P
  · rw [if_pos h, if_pos h]; rfl
  · rw [if_neg h, if_neg h]; rfl
theorem qi3 {P : Prop} [Decidable P] {α : Type} {A B : α} : (if (if P then (0 : Int) else 1) ≠ 0 then A else B) = if P then B else A := by
  by_cases h : P
  · rw [if_pos h, if_pos h]; rfl
  · rw [if_neg h, if_neg h]; rfl
theorem dv_bm {n : Int} (h1 : -2147483648 ≤ n) (h2 : n ≤ 2147483647) : n.bmod (2 ^ 32) = n := by
  rw [Int.bmod_eq_of_le] <;> omega
theorem dv_for {σ ρ : Type} [Nonempty ρ] {b : σ → Sum σ ρ} {s : Nat → σ} {n : Nat} {r : ρ} (hs : ∀ i, i < n → b (s i) = .inl (s (i + 1))) (he : b (s n) = .inr r) : dv_lp b (s 0) = r := by
  have h : ∀ k i, i + k = n → dv_lp b (s i) = r := by
    intro k
    induction k with
    | zero => intro i hi; rw [show i = n by omega]; exact dv_lp_e he
    | succ k ih => intro i hi; rw [dv_lp_s (hs i (by omega))]; exact ih (i + 1) (by omega)
  exact h n 0 (by omega)
theorem dv_for2 {σ ρ : Type} [Nonempty ρ] {b : σ → Sum σ ρ} {s : Nat → σ} {s0 : σ} {n : Nat} {r : ρ} (h0 : s0 = s 0) (hs : ∀ i, i < n → b (s i) = .inl (s (i + 1))) (he : b (s n) = .inr r) : dv_lp b s0 = r := by
  rw [h0]; exact dv_for hs he
theorem dv_ofInt {n : Int} (h0 : -2147483648 ≤ n) (h1 : n ≤ 2147483647) : (Int32.ofInt n).toInt = n := by
  rw [Int32.toInt_ofInt]; exact dv_bm h0 h1
theorem dv_add_ok {a b : Int} (h0 : -2147483648 ≤ a + b) (h1 : a + b ≤ 2147483647) (a0 : -2147483648 ≤ a) (a1 : a ≤ 2147483647) (b0 : -2147483648 ≤ b) (b1 : b ≤ 2147483647) : dv_add a b = a + b := by
  unfold dv_add
  rw [Int32.toInt_add, dv_ofInt a0 a1, dv_ofInt b0 b1]; exact dv_bm h0 h1
theorem dv_sub_ok {a b : Int} (h0 : -2147483648 ≤ a - b) (h1 : a - b ≤ 2147483647) (a0 : -2147483648 ≤ a) (a1 : a ≤ 2147483647) (b0 : -2147483648 ≤ b) (b1 : b ≤ 2147483647) : dv_sub a b = a - b := by
  unfold dv_sub
  rw [Int32.toInt_sub, dv_ofInt a0 a1, dv_ofInt b0 b1]; exact dv_bm h0 h1
/-- sums over the first n -/
def qs (f : Nat → Int) : Nat → Int
  | 0 => 0
  | n + 1 => qs f n + f n
theorem qs_c {f g : Nat → Int} {n : Nat} (h : ∀ i, i < n → f i = g i) : qs f n = qs g n := by
  induction n with
  | zero => rfl
  | succ n ih => unfold qs; rw [ih (fun i hi => h i (by omega)), h n (by omega)]
theorem qs_b {f : Nat → Int} {n : Nat} {k : Int} (h : ∀ i, i < n → 0 ≤ f i ∧ f i ≤ k) : 0 ≤ qs f n ∧ qs f n ≤ k * n := by
  induction n with
  | zero => unfold qs; omega
  | succ n ih =>
    unfold qs
    have h1 := ih (fun i hi => h i (by omega))
    have h2 := h n (by omega)
    rw [Int.natCast_succ, Int.mul_add]
    omega
end QB
section QF
variable {V : dV} {a c : Int}
theorem q_has : f_X1_has V a c = (if 0 ≤ c ∧ c < V a 7 0 then 1 else 0, ()) := by
  unfold f_X1_has
  simp only [bq]
  split
  · rw [if_neg (by omega)]
  · split
    · rw [if_neg (by omega)]
    · rw [if_pos (by omega)]
theorem q_isLaid : f_X1_isLaid V a c = (if 0 ≤ c ∧ c < V a 7 0 ∧ V a 3 c ≠ -1 then 1 else 0, ()) := by
  unfold f_X1_isLaid
  simp only [bq, bq2, q_has, qi0, qi1, qi2, qi3]
  by_cases h : 0 ≤ c ∧ c < V a 7 0
  · rw [if_pos h]
    by_cases h1 : V a 3 c = -1
    · rw [if_pos h1, if_neg (by omega)]
    · rw [if_neg h1, if_pos (by omega)]
  · rw [if_neg h, if_neg (by omega)]
theorem q_isReady : f_X1_isReady V a c = (if (0 ≤ c ∧ c < V a 7 0) ∧ V a 3 c = -1 ∧ 0 < V a 2 c then 1 else 0, ()) := by
  unfold f_X1_isReady
  simp only [bq, bq2, q_has, qi0, qi1, qi2, qi3]
  by_cases h : 0 ≤ c ∧ c < V a 7 0
  · rw [if_pos h]
    by_cases h1 : V a 3 c = -1
    · rw [if_neg (by omega)]
      by_cases h2 : 0 < V a 2 c
      · simp [h, h1, h2]
      · simp [h, h1, h2]
    · rw [if_pos h1, if_neg (by omega)]
  · rw [if_neg h, if_neg (by omega)]
theorem q_laidCarpets (h0 : 0 ≤ V a 7 0) (h9 : V a 7 0 ≤ 9) : f_X1_laidCarpets V a = (qs (fun i => if V a 3 (i : Int) ≠ -1 then 1 else 0) (V a 7 0).toNat, ()) := by
  unfold f_X1_laidCarpets
  refine dv_for2 (s := fun i => (V, a, qs (fun i => if V a 3 (i : Int) ≠ -1 then 1 else 0) i, (i : Int))) (n := (V a 7 0).toNat) rfl (fun i hi => ?_) ?_
  · have hb := qs_b (f := fun i : Nat => if V a 3 (i : Int) ≠ -1 then (1 : Int) else 0) (n := i) (k := 1) (fun i _ => by split <;> omega)
    simp only [f_X1_laidCarpets_4e, f_X1_laidCarpets_4c, f_X1_laidCarpets_26, bq, bq2, q_isLaid, qi0, qi1, qi2, qi3]
    rw [if_neg (by omega)]
    by_cases h : V a 3 (i : Int) ≠ -1
    · rw [if_pos ⟨by omega, by omega, h⟩, dv_add_ok (by omega) (by omega) (by omega) (by omega) (by omega) (by omega)]
      simp only [qs, if_pos h]
      rfl
    · rw [if_neg (by omega), dv_add_ok (by omega) (by omega) (by omega) (by omega) (by omega) (by omega)]
      simp only [qs, if_neg h]
      rfl
  · simp only [f_X1_laidCarpets_4e, f_X1_laidCarpets_4c, bq]
    rw [if_pos (by omega)]
end QF
section QM
variable {V : dV} {a c x y z : Int}
theorem q_lies : f_X12_lies V x y z = (if y ≤ x ∧ x ≤ z then 1 else 0, ()) := by
  unfold f_X12_lies
  by_cases h : x < y
  · rw [if_pos h, if_neg (by omega)]
  · rw [if_neg h]
    by_cases h1 : z < x
    · rw [if_pos h1, if_neg (by omega)]
    · rw [if_neg h1, if_pos (by omega)]
theorem q_lesser : f_X12_lesser V x y = (min x y, ()) := by
  unfold f_X12_lesser
  split <;> (congr 1; omega)
theorem q_greater : f_X12_greater V x y = (max x y, ()) := by
  unfold f_X12_greater
  split <;> (congr 1; omega)
theorem q_isSide : f_X12_isSide V x = (if 1 ≤ x ∧ x ≤ 12 then 1 else 0, ()) := by
  unfold f_X12_isSide
  simp only [bq2, q_lies, qi0, qi1, qi2, qi3]
theorem q_isAlong : f_X12_isAlong V x = (if 0 ≤ x ∧ x ≤ 11 then 1 else 0, ()) := by
  unfold f_X12_isAlong
  simp only [bq2, q_lies, qi0, qi1, qi2, qi3]
theorem q_canBe : f_X12_canBe V x y z = (if (1 ≤ x ∧ x ≤ 12) ∧ (0 ≤ y ∧ y ≤ 3) ∧ 0 ≤ z ∧ z ≤ 9 then 1 else 0, ()) := by
  unfold f_X12_canBe
  simp only [bq2, q_lies, q_isSide, qi0, qi1, qi2, qi3]
  by_cases h : 1 ≤ x ∧ x ≤ 12 <;> by_cases h1 : 0 ≤ y ∧ y ≤ 3 <;> by_cases h2 : 0 ≤ z ∧ z ≤ 9 <;> simp [h, h1, h2]
theorem q_many : f_X12_many V a = (V a 2 69, ()) := by
  unfold f_X12_many
  simp only [bq]
theorem q_isCarpet : f_X12_isCarpet V a c = (if 0 ≤ c ∧ c < V a 2 69 then 1 else 0, ()) := by
  unfold f_X12_isCarpet
  simp only [bq, bq2, q_lies, q_many, qi0, qi1, qi2, qi3]
  congr 1
  by_cases h : 0 ≤ c ∧ c < V a 2 69
  · rw [if_pos h, if_pos (by omega)]
  · rw [if_neg h, if_neg (by omega)]
theorem q_mLaid : f_X12_isLaid V a c = (if V a 2 (9 + c) = -1 then 0 else 1, ()) := by
  unfold f_X12_isLaid
  simp only [bq]
  split <;> rfl
theorem q_mWhole : f_X12_isWhole V a c = (if 0 < V a 2 c then 1 else 0, ()) := by
  unfold f_X12_isWhole
  simp only [bq, Int.zero_add]
  by_cases h : 0 < V a 2 c
  · rw [if_neg (by omega), if_pos h]
  · rw [if_pos (by omega), if_neg h]
theorem q_isLaw : f_X12_isLaw V a c = (if -1 ≤ c ∧ c < V a 2 71 then 1 else 0, ()) := by
  unfold f_X12_isLaw
  simp only [bq, bq2, q_lies, qi0, qi1, qi2, qi3]
  congr 1
  by_cases h : -1 ≤ c ∧ c < V a 2 71
  · rw [if_pos h, if_pos (by omega)]
  · rw [if_neg h, if_neg (by omega)]
theorem q_laidMany : f_X12_laidMany V a = (qs (fun i => if V a 2 (9 + (i : Int)) = -1 then 0 else 1) (V a 2 69).toNat, ()) := by
  unfold f_X12_laidMany
  refine dv_for2 (s := fun i => (V, a, qs (fun i => if V a 2 (9 + (i : Int)) = -1 then 0 else 1) i, (i : Int))) (n := (V a 2 69).toNat) rfl (fun i hi => ?_) ?_
  · simp only [f_X12_laidMany_4e, f_X12_laidMany_4c, bq, bq2, q_many, q_mLaid, qi0, qi1, qi2, qi3]
    rw [if_neg (by omega)]
    by_cases h : V a 2 (9 + (i : Int)) = -1
    · rw [if_pos h]
      simp only [qs, if_pos h]
      rfl
    · rw [if_neg h]
      simp only [qs, if_neg h]
      rfl
  · simp only [f_X12_laidMany_4e, f_X12_laidMany_4c, bq, bq2, q_many]
    rw [if_pos (show V a 2 69 ≤ ((V a 2 69).toNat : Int) by omega)]
end QM
section QI
theorem dv_inv {σ ρ : Type} [Nonempty ρ] {b : σ → Sum σ ρ} (P : σ → Prop) (Q : ρ → Prop) (m : σ → Nat) (h : ∀ s, P s → (∃ t, b s = .inl t ∧ P t ∧ m t < m s) ∨ ∃ r, b s = .inr r ∧ Q r) : ∀ s, P s → Q (dv_lp b s) := by
  have h1 : ∀ k s, m s < k → P s → Q (dv_lp b s) := by
    intro k
    induction k with
    | zero => intro s hs; exact absurd hs (by omega)
    | succ k ih =>
      intro s hs hp
      rcases h s hp with ⟨t, e, ht, hm⟩ | ⟨r, e, hr⟩
      · rw [dv_lp_s e]; exact ih t (by omega) ht
      · rw [dv_lp_e e]; exact hr
  exact fun s hp => h1 (m s + 1) s (by omega) hp
theorem qm_b {x y a b : Int} (h0 : 0 ≤ x) (h1 : x ≤ a) (h2 : 0 ≤ y) (h3 : y ≤ b) : 0 ≤ x * y ∧ x * y ≤ a * b := ⟨Int.mul_nonneg h0 h2, Int.mul_le_mul h1 h3 h2 (by omega)⟩
end QI
section QF2
variable {V : dV} {a c px py : Int}
/-- the numbers of a floor that are bounded -/
def fb (φ : Nat → Int → Int) : Prop := (0 ≤ φ 7 0 ∧ φ 7 0 ≤ 9) ∧ (0 ≤ φ 8 0 ∧ φ 8 0 ≤ 12) ∧ (0 ≤ φ 9 0 ∧ φ 9 0 ≤ 12) ∧ ∀ c, 0 ≤ c → c < φ 7 0 → (0 ≤ φ 0 c ∧ φ 0 c ≤ 12) ∧ (φ 3 c = -1 ∨ (0 ≤ φ 3 c ∧ φ 3 c ≤ 12 ∧ 0 ≤ φ 4 c ∧ φ 4 c ≤ 12))
def sqf (φ : Nat → Int → Int) (i : Nat) : Int := if φ 3 (i : Int) = -1 then 0 else φ 0 (i : Int) * φ 0 (i : Int)
theorem sqf_b {φ : Nat → Int → Int} (h : fb φ) {i : Nat} (hi : (i : Int) < φ 7 0) : 0 ≤ sqf φ i ∧ sqf φ i ≤ 144 := by
  unfold sqf
  have h1 := (h.2.2.2 (i : Int) (by omega) hi).1
  have h2 := qm_b h1.1 h1.2 h1.1 h1.2
  split <;> omega
theorem q_bare_e {x : Int} (h : 0 ≤ V a 7 0) : f_X1_bareCells_12b (V, a, x, (((V a 7 0).toNat : Nat) : Int)) = .inr (x, ()) := by
  rw [f_X1_bareCells_12e]
  unfold f_X1_bareCells_12c
  simp only [bq]
  rw [if_pos (by omega)]
theorem q_bareCells (h : fb (V a)) : f_X1_bareCells V a = (V a 8 0 * V a 9 0 - qs (sqf (V a)) (V a 7 0).toNat, ()) := by
  have hw := qm_b h.2.1.1 h.2.1.2 h.2.2.1.1 h.2.2.1.2
  have hn := h.1
  unfold f_X1_bareCells
  simp only [bq]
  refine dv_for2 (s := fun i => (V, a, V a 8 0 * V a 9 0 - qs (sqf (V a)) i, (i : Int))) (n := (V a 7 0).toNat) (by simp [qs]) (fun i hi => ?_) ?_
  · have hb := qs_b (f := sqf (V a)) (n := i) (k := 144) (fun j hj => sqf_b h (by omega))
    have hc := sqf_b h (i := i) (by omega)
    simp only [f_X1_bareCells_12e, f_X1_bareCells_12c, f_X1_bareCells_46, bq, bq2, q_isLaid, qi0, qi1, qi2, qi3]
    rw [if_neg (by omega)]
    by_cases h3 : V a 3 (i : Int) = -1
    · rw [if_neg (by omega), dv_sub_ok (by omega) (by omega) (by omega) (by omega) (by omega) (by omega)]
      have e : sqf (V a) i = 0 := by unfold sqf; rw [if_pos h3]
      have e2 : qs (sqf (V a)) (i + 1) = qs (sqf (V a)) i := by rw [qs, e, Int.add_zero]
      rw [e2, Int.sub_zero, Int.natCast_succ]
    · have e : sqf (V a) i = V a 0 (i : Int) * V a 0 (i : Int) := by unfold sqf; rw [if_neg h3]
      rw [if_pos ⟨by omega, by omega, h3⟩, dv_sub_ok (by omega) (by omega) (by omega) (by omega) (by omega) (by omega)]
      have e2 : qs (sqf (V a)) (i + 1) = qs (sqf (V a)) i + V a 0 (i : Int) * V a 0 (i : Int) := by rw [qs, e]
      rw [e2, Int.sub_sub, Int.natCast_succ]
  · exact q_bare_e hn.1
theorem q_rags (h : fb (V a)) : f_X1_rags V a = (qs (fun i => if V a 2 (i : Int) = 0 then 1 else 0) (V a 7 0).toNat, ()) := by
  have hn := h.1
  unfold f_X1_rags
  refine dv_for2 (s := fun i => (V, a, qs (fun i => if V a 2 (i : Int) = 0 then 1 else 0) i, (i : Int))) (n := (V a 7 0).toNat) rfl (fun i hi => ?_) ?_
  · have hb := qs_b (f := fun i : Nat => if V a 2 (i : Int) = 0 then (1 : Int) else 0) (n := i) (k := 1) (fun i _ => by split <;> omega)
    simp only [f_X1_rags_4e, f_X1_rags_4c, f_X1_rags_27, bq]
    rw [if_neg (by omega)]
    by_cases h3 : V a 2 (i : Int) = 0
    · rw [if_neg (by omega), dv_add_ok (by omega) (by omega) (by omega) (by omega) (by omega) (by omega)]
      simp only [qs, if_pos h3]
      rfl
    · rw [if_pos h3, dv_add_ok (by omega) (by omega) (by omega) (by omega) (by omega) (by omega)]
      simp only [qs, if_neg h3]
      rfl
  · simp only [f_X1_rags_4e, f_X1_rags_4c, bq]
    rw [if_pos (by omega)]
/-- whether the carpet covers the cell -/
def cov (φ : Nat → Int → Int) (c px py : Int) : Prop := φ 3 c ≠ -1 ∧ φ 3 c ≤ px ∧ px < φ 3 c + φ 0 c ∧ φ 4 c ≤ py ∧ py < φ 4 c + φ 0 c
theorem q_carpetOn (h : fb (V a)) : ∃ r : Int, f_X1_carpetOn V a px py = (r, ()) ∧ ((r = -1 ∧ ∀ c, 0 ≤ c → c < V a 7 0 → ¬ cov (V a) c px py) ∨ (0 ≤ r ∧ r < V a 7 0 ∧ cov (V a) r px py)) := by
  have hn := h.1
  unfold f_X1_carpetOn
  refine dv_inv (P := fun s => ∃ j : Int, s = (V, a, px, py, j) ∧ 0 ≤ j ∧ j ≤ V a 7 0 ∧ ∀ c, 0 ≤ c → c < j → ¬ cov (V a) c px py) (Q := fun q => ∃ r : Int, q = (r, ()) ∧ ((r = -1 ∧ ∀ c, 0 ≤ c → c < V a 7 0 → ¬ cov (V a) c px py) ∨ (0 ≤ r ∧ r < V a 7 0 ∧ cov (V a) r px py))) (m := fun s => (V a 7 0 - s.2.2.2.2).toNat) ?_ _ ⟨0, rfl, by omega, by omega, fun c h0 h1 => by omega⟩
  rintro s ⟨j, rfl, j0, j9, hj⟩
  simp only [f_X1_carpetOn_2e, f_X1_carpetOn_2c, f_X1_carpetOn_74, bq, bq2, q_isLaid, qi0, qi1, qi2, qi3]
  by_cases e : V a 7 0 ≤ j
  · rw [if_pos e]
    exact Or.inr ⟨_, rfl, -1, rfl, Or.inl ⟨rfl, fun c h0 h1 => hj c h0 (by omega)⟩⟩
  · rw [if_neg e]
    have hc := h.2.2.2 j j0 (by omega)
    by_cases h3 : V a 3 j = -1
    · rw [if_neg (by omega)]
      refine Or.inl ⟨_, rfl, ⟨j + 1, rfl, by omega, by omega, fun c h0 h1 w => ?_⟩, by dsimp only; omega⟩
      by_cases w1 : c = j
      · subst w1; exact w.1 h3
      · exact hj c h0 (by omega) w
    · have hp := hc.2.resolve_left h3
      rw [if_pos ⟨by omega, by omega, h3⟩, dv_add_ok (by omega) (by omega) (by omega) (by omega) (by omega) (by omega), dv_add_ok (by omega) (by omega) (by omega) (by omega) (by omega) (by omega)]
      by_cases w : cov (V a) j px py
      · obtain ⟨w0, w1, w2, w3, w4⟩ := w
        rw [if_neg (by omega), if_neg (by omega), if_neg (by omega), if_neg (by omega)]
        exact Or.inr ⟨_, rfl, j, rfl, Or.inr ⟨j0, by omega, w0, w1, w2, w3, w4⟩⟩
      · have hx : (if px < V a 3 j then (Sum.inl (V, a, px, py, j + 1) : Sum (dV × Int × Int × Int × Int) dP) else if V a 3 j + V a 0 j ≤ px then Sum.inl (V, a, px, py, j + 1) else if py < V a 4 j then Sum.inl (V, a, px, py, j + 1) else if V a 4 j + V a 0 j ≤ py then Sum.inl (V, a, px, py, j + 1) else Sum.inr (j, ())) = Sum.inl (V, a, px, py, j + 1) := by
          split
          · rfl
          · split
            · rfl
            · split
              · rfl
              · split
                · rfl
                · exact absurd ⟨h3, by omega, by omega, by omega, by omega⟩ w
        rw [hx]
        refine Or.inl ⟨_, rfl, ⟨j + 1, rfl, by omega, by omega, fun c h0 h1 w9 => ?_⟩, by dsimp only; omega⟩
        by_cases w1 : c = j
        · subst w1; exact w w9
        · exact hj c h0 (by omega) w9
end QF2
section QK
/-- the floor that a kept row tells from its place b on -/
def kf (K : Int → Int) (b : Int) : Nat → Int → Int := fun j c => match j with
  | 0 => K (b + (29 + c))
  | 1 => K (b + (38 + c))
  | 2 => K (b + c)
  | 3 => K (b + (9 + c))
  | 4 => K (b + (18 + c))
  | 5 => if c = 0 then K (b + 28) else K (b + (64 + c))
  | 7 => K (b + 69)
  | 8 => K (b + 67)
  | 9 => K (b + 68)
  | 10 => K (b + 27)
  | _ => 0
/-- two floors that tell the same -/
def ef (φ ψ : Nat → Int → Int) : Prop := (∀ c, 0 ≤ c → c < 9 → φ 0 c = ψ 0 c ∧ φ 1 c = ψ 1 c ∧ φ 2 c = ψ 2 c ∧ φ 3 c = ψ 3 c ∧ φ 4 c = ψ 4 c) ∧ (φ 5 0 = ψ 5 0 ∧ φ 5 1 = ψ 5 1 ∧ φ 5 2 = ψ 5 2) ∧ φ 7 0 = ψ 7 0 ∧ φ 8 0 = ψ 8 0 ∧ φ 9 0 = ψ 9 0 ∧ φ 10 0 = ψ 10 0
variable {φ ψ : Nat → Int → Int} {V : dV} {a c px py : Int}
theorem ef_fb (e : ef φ ψ) (h : fb φ) : fb ψ := by
  obtain ⟨e1, -, e7, e8, e9, -⟩ := e
  obtain ⟨h7, h8, h9, h1⟩ := h
  refine ⟨by omega, by omega, by omega, fun c c0 c1 => ?_⟩
  have := e1 c c0 (by omega)
  have := h1 c c0 (by omega)
  omega
theorem ef_sqf (e : ef φ ψ) (h : fb φ) : qs (sqf φ) (φ 7 0).toNat = qs (sqf ψ) (ψ 7 0).toNat := by
  rw [← e.2.2.1]
  refine qs_c fun i hi => ?_
  have h7 := h.1
  obtain ⟨e0, -, -, e3, -⟩ := e.1 (i : Int) (by omega) (by omega)
  unfold sqf
  rw [e0, e3]
theorem ef_rag (e : ef φ ψ) (h : fb φ) : qs (fun i => if φ 2 (i : Int) = 0 then 1 else 0) (φ 7 0).toNat = qs (fun i => if ψ 2 (i : Int) = 0 then 1 else 0) (ψ 7 0).toNat := by
  rw [← e.2.2.1]
  refine qs_c fun i hi => ?_
  have h7 := h.1
  rw [(e.1 (i : Int) (by omega) (by omega)).2.2.1]
theorem ef_laid (e : ef φ ψ) (h : fb φ) : qs (fun i => if φ 3 (i : Int) ≠ -1 then 1 else 0) (φ 7 0).toNat = qs (fun i => if ψ 3 (i : Int) ≠ -1 then 1 else 0) (ψ 7 0).toNat := by
  rw [← e.2.2.1]
  refine qs_c fun i hi => ?_
  have h7 := h.1
  rw [(e.1 (i : Int) (by omega) (by omega)).2.2.2.1]
theorem q_laidMany2 : f_X12_laidMany V a = (qs (fun i => if kf (V a 2) 0 3 (i : Int) ≠ -1 then 1 else 0) (kf (V a 2) 0 7 0).toNat, ()) := by
  rw [q_laidMany]
  congr 1
  simp only [kf, Int.zero_add]
  refine qs_c fun i _ => ?_
  by_cases h : V a 2 (9 + (i : Int)) = -1
  · rw [if_pos h, if_neg (fun q => q h)]
  · rw [if_neg h, if_pos h]
theorem q_bareMany : f_X12_bareMany V a = (kf (V a 2) 0 8 0 * kf (V a 2) 0 9 0 - qs (sqf (kf (V a 2) 0)) (kf (V a 2) 0 7 0).toNat, ()) := by
  unfold f_X12_bareMany
  simp only [bq, kf, Int.zero_add]
  refine dv_for2 (s := fun i => (V, a, V a 2 67 * V a 2 68 - qs (sqf (kf (V a 2) 0)) i, (i : Int))) (n := (V a 2 69).toNat) (by simp [qs]) (fun i hi => ?_) ?_
  · simp only [f_X12_bareMany_18e, f_X12_bareMany_18c, bq, bq2, q_many, q_mLaid, qi0, qi1, qi2, qi3]
    rw [if_neg (by omega)]
    by_cases h3 : V a 2 (9 + (i : Int)) = -1
    · rw [if_pos h3]
      simp only [qs]
      have e : sqf (kf (V a 2) 0) i = 0 := by unfold sqf; simp only [kf, Int.zero_add]; rw [if_pos h3]
      rw [e, Int.add_zero, Int.sub_zero]
      rfl
    · have e : sqf (kf (V a 2) 0) i = V a 2 (29 + (i : Int)) * V a 2 (29 + (i : Int)) := by unfold sqf; simp only [kf, Int.zero_add]; rw [if_neg h3]
      rw [if_neg h3]
      simp only [qs]
      rw [e, Int.sub_sub]
      rfl
  · simp only [f_X12_bareMany_18e, f_X12_bareMany_18c, bq, bq2, q_many]
    rw [if_pos (by omega)]
theorem q_ragMany (h : fb (kf (V a 2) 0)) (hp : ∀ c, 0 ≤ c → c < V a 2 69 → 0 ≤ V a 2 c) : f_X12_ragMany V a = (qs (fun i => if kf (V a 2) 0 2 (i : Int) = 0 then 1 else 0) (kf (V a 2) 0 7 0).toNat, ()) := by
  have hn : 0 ≤ V a 2 69 ∧ V a 2 69 ≤ 9 := by have := h.1; simp only [kf, Int.zero_add] at this; exact this
  unfold f_X12_ragMany
  simp only [kf, Int.zero_add]
  refine dv_for2 (s := fun i => (V, a, qs (fun i => if V a 2 (i : Int) = 0 then 1 else 0) i, (i : Int))) (n := (V a 2 69).toNat) rfl (fun i hi => ?_) ?_
  · have hb := qs_b (f := fun i : Nat => if V a 2 (i : Int) = 0 then (1 : Int) else 0) (n := i) (k := 1) (fun i _ => by split <;> omega)
    have h0 := hp (i : Int) (by omega) (by omega)
    simp only [f_X12_ragMany_4e, f_X12_ragMany_4c, f_X12_ragMany_26, bq, bq2, q_many, q_mWhole, qi0, qi1, qi2, qi3]
    rw [if_neg (by omega)]
    by_cases h3 : V a 2 (i : Int) = 0
    · rw [if_neg (show ¬ 0 < V a 2 (i : Int) by omega), dv_add_ok (by omega) (by omega) (by omega) (by omega) (by omega) (by omega)]
      simp only [qs, if_pos h3]
      rfl
    · rw [if_pos (show 0 < V a 2 (i : Int) by omega), dv_add_ok (by omega) (by omega) (by omega) (by omega) (by omega) (by omega)]
      simp only [qs, if_neg h3]
      rfl
  · simp only [f_X12_ragMany_4e, f_X12_ragMany_4c, bq, bq2, q_many]
    rw [if_pos (by omega)]
theorem q_covers (h : fb (kf (V a 2) 0)) (c0 : 0 ≤ c) (c1 : c < V a 2 69) : ∃ r : Int, f_X12_covers V a c px py = (r, ()) ∧ (r = 1 ∧ cov (kf (V a 2) 0) c px py ∨ r = 0 ∧ ¬ cov (kf (V a 2) 0) c px py) := by
  have hc := h.2.2.2 c c0 (by simp only [kf, Int.zero_add]; exact c1)
  simp only [kf, Int.zero_add] at hc
  unfold f_X12_covers cov
  simp only [bq, bq2, q_mLaid, q_lies, kf, Int.zero_add, qi0, qi1, qi2, qi3]
  by_cases h3 : V a 2 (9 + c) = -1
  · rw [if_pos h3]
    exact ⟨0, rfl, Or.inr ⟨rfl, fun w => w.1 h3⟩⟩
  · have hp := hc.2.resolve_left h3
    rw [if_neg h3, dv_add_ok (by omega) (by omega) (by omega) (by omega) (by omega) (by omega), dv_sub_ok (by omega) (by omega) (by omega) (by omega) (by omega) (by omega), dv_add_ok (by omega) (by omega) (by omega) (by omega) (by omega) (by omega), dv_sub_ok (by omega) (by omega) (by omega) (by omega) (by omega) (by omega)]
    by_cases w1 : V a 2 (9 + c) ≤ px ∧ px ≤ V a 2 (9 + c) + V a 2 (29 + c) - 1
    · rw [if_pos w1]
      by_cases w2 : V a 2 (18 + c) ≤ py ∧ py ≤ V a 2 (18 + c) + V a 2 (29 + c) - 1
      · rw [if_pos w2]
        exact ⟨1, rfl, Or.inl ⟨rfl, h3, by omega, by omega, by omega, by omega⟩⟩
      · rw [if_neg w2]
        exact ⟨0, rfl, Or.inr ⟨rfl, fun w => w2 (by omega)⟩⟩
    · rw [if_neg w1]
      exact ⟨0, rfl, Or.inr ⟨rfl, fun w => w1 (by omega)⟩⟩
theorem q_at (h : fb (kf (V a 2) 0)) : ∃ r : Int, f_X12_at V a px py = (r, ()) ∧ ((r = -1 ∧ ∀ c, 0 ≤ c → c < V a 2 69 → ¬ cov (kf (V a 2) 0) c px py) ∨ (0 ≤ r ∧ r < V a 2 69 ∧ cov (kf (V a 2) 0) r px py)) := by
  have hn : 0 ≤ V a 2 69 ∧ V a 2 69 ≤ 9 := by have := h.1; simp only [kf, Int.zero_add] at this; exact this
  unfold f_X12_at
  refine dv_inv (P := fun s => ∃ r j : Int, s = (V, a, px, py, r, j) ∧ 0 ≤ j ∧ j ≤ V a 2 69 ∧ ((r = -1 ∧ ∀ c, 0 ≤ c → c < j → ¬ cov (kf (V a 2) 0) c px py) ∨ (0 ≤ r ∧ r < V a 2 69 ∧ cov (kf (V a 2) 0) r px py))) (Q := fun q => ∃ r : Int, q = (r, ()) ∧ ((r = -1 ∧ ∀ c, 0 ≤ c → c < V a 2 69 → ¬ cov (kf (V a 2) 0) c px py) ∨ (0 ≤ r ∧ r < V a 2 69 ∧ cov (kf (V a 2) 0) r px py))) (m := fun s => (V a 2 69 - s.2.2.2.2.2).toNat) ?_ _ ⟨-1, 0, rfl, by omega, by omega, Or.inl ⟨rfl, fun c h0 h1 => by omega⟩⟩
  rintro s ⟨r, j, rfl, j0, j9, hj⟩
  simp only [f_X12_at_5e, f_X12_at_5c, f_X12_at_31, bq, bq2, q_many]
  by_cases e : V a 2 69 ≤ j
  · rw [if_pos e]
    refine Or.inr ⟨_, rfl, r, rfl, ?_⟩
    rw [show V a 2 69 = j by omega] at hj ⊢
    exact hj
  · rw [if_neg e]
    obtain ⟨x, hx, hy⟩ := q_covers (px := px) (py := py) h j0 (by omega)
    rw [hx]
    rcases hy with ⟨rfl, hy⟩ | ⟨rfl, hy⟩
    · rw [if_neg (by decide)]
      exact Or.inl ⟨_, rfl, ⟨j, j + 1, rfl, by omega, by omega, Or.inr ⟨j0, by omega, hy⟩⟩, by dsimp only; omega⟩
    · rw [if_pos rfl]
      refine Or.inl ⟨_, rfl, ⟨r, j + 1, rfl, by omega, by omega, ?_⟩, by dsimp only; omega⟩
      rcases hj with ⟨h1, h2⟩ | h1
      · refine Or.inl ⟨h1, fun c k0 k1 w => ?_⟩
        by_cases w1 : c = j
        · subst w1; exact hy w
        · exact h2 c k0 (by omega) w
      · exact Or.inr h1
/-- no two carpets cover one cell -/
def dj (φ : Nat → Int → Int) : Prop := ∀ c d px py, 0 ≤ c → c < φ 7 0 → 0 ≤ d → d < φ 7 0 → cov φ c px py → cov φ d px py → c = d
theorem ef_cov (e : ef φ ψ) (c0 : 0 ≤ c) (c1 : c < 9) : cov φ c px py ↔ cov ψ c px py := by
  obtain ⟨e0, -, -, e3, e4⟩ := e.1 c c0 c1
  unfold cov
  rw [e0, e3, e4]
theorem q_at_eq {A B : Int} (e : ef (V A) (kf (V B 2) 0)) (h : fb (V A)) (hd : dj (V A)) : f_X1_carpetOn V A px py = f_X12_at V B px py := by
  have h2 := ef_fb e h
  obtain ⟨r, e1, h1⟩ := q_carpetOn (px := px) (py := py) h
  obtain ⟨r', e1', h1'⟩ := q_at (px := px) (py := py) h2
  have e7 : V A 7 0 = V B 2 69 := by have := e.2.2.1; simp only [kf, Int.zero_add] at this; exact this
  have hn := h.1
  rw [e1, e1']
  congr 1
  rcases h1 with ⟨rfl, k1⟩ | ⟨a0, a1, a2⟩
  · rcases h1' with ⟨rfl, -⟩ | ⟨b0, b1, b2⟩
    · rfl
    · exact absurd ((ef_cov e b0 (by omega)).mpr b2) (k1 r' b0 (by omega))
  · rcases h1' with ⟨rfl, k1⟩ | ⟨b0, b1, b2⟩
    · exact absurd ((ef_cov e a0 (by omega)).mp a2) (k1 r a0 (by omega))
    · exact hd r r' px py a0 (by omega) b0 (by omega) a2 ((ef_cov e b0 (by omega)).mpr b2)
end QK
section QBIT
/-- bit i of a number of 32 bits -/
def qb (m : Int) (i : Nat) : Bool := (Int32.ofInt m).toBitVec.getLsbD i
theorem qb_and {a b : Int} {i : Nat} : qb (dv_and a b) i = (qb a i && qb b i) := by
  unfold qb dv_and
  rw [Int32.ofInt_toInt, Int32.toBitVec_and, BitVec.getLsbD_and]
theorem qb_or {a b : Int} {i : Nat} : qb (dv_or a b) i = (qb a i || qb b i) := by
  unfold qb dv_or
  rw [Int32.ofInt_toInt, Int32.toBitVec_or, BitVec.getLsbD_or]
theorem qb_xor {a b : Int} {i : Nat} : qb (dv_xor a b) i = (qb a i ^^ qb b i) := by
  unfold qb dv_xor
  rw [Int32.ofInt_toInt, Int32.toBitVec_xor, BitVec.getLsbD_xor]
theorem qb_0 {i : Nat} : qb 0 i = false := by
  unfold qb
  rw [show Int32.ofInt 0 = 0 from rfl]
  simp
theorem qb_and0 {a b : Int} : dv_and a b = 0 ↔ ∀ i, i < 32 → ¬ (qb a i = true ∧ qb b i = true) := by
  constructor
  · intro h i hi w
    have h1 : qb (dv_and a b) i = false := by rw [h]; exact qb_0
    rw [qb_and, w.1, w.2] at h1
    cases h1
  · intro h
    have h1 : (Int32.ofInt a &&& Int32.ofInt b) = 0 := by
      apply Int32.toBitVec_inj.mp
      apply BitVec.eq_of_getLsbD_eq
      intro i hi
      have h2 := h i hi
      have h3 : (Int32.ofInt a &&& Int32.ofInt b).toBitVec.getLsbD i = (qb a i && qb b i) := by
        rw [Int32.toBitVec_and, BitVec.getLsbD_and]
        rfl
      rw [h3]
      cases ha : qb a i <;> cases hb : qb b i <;> simp_all
    unfold dv_and
    rw [h1]
    rfl
/-- the bits of a row that a square of side s covers from x on -/
def mk (s x : Int) : Int := dv_shl (dv_sub (dv_shl 1 s) 1) x
theorem mk_all : ∀ s : Fin 13, ∀ x : Fin 13, ∀ i : Fin 32, qb (mk (s.1 : Int) (x.1 : Int)) i.1 = decide (x.1 ≤ i.1 ∧ i.1 < x.1 + s.1) := by decide +kernel
theorem qb_mk {s x : Int} {i : Nat} (s0 : 0 ≤ s) (s1 : s ≤ 12) (x0 : 0 ≤ x) (x1 : x ≤ 12) (hi : i < 32) : qb (mk s x) i = true ↔ x ≤ (i : Int) ∧ (i : Int) < x + s := by
  have h := mk_all ⟨s.toNat, by omega⟩ ⟨x.toNat, by omega⟩ ⟨i, hi⟩
  simp only [show ((s.toNat : Nat) : Int) = s by omega, show ((x.toNat : Nat) : Int) = x by omega] at h
  rw [h]
  simp only [decide_eq_true_eq]
  omega
end QBIT
section QCOV
variable {V : dV} {a c x y s : Int}
theorem q_turns (h0 : 0 ≤ s) : ∃ V' : dV, f_X12_turnsSquare V a s x y = (V', 0) ∧ (∀ b j z, ¬ (b = a ∧ j = 29) → V' b j z = V b j z) ∧ ∀ z, V' a 29 z = if y ≤ z ∧ z < y + s then dv_xor (V a 29 z) (mk s x) else V a 29 z := by
  unfold f_X12_turnsSquare
  refine dv_inv (P := fun q => ∃ (W : dV) (j : Int), q = (W, a, s, x, y, j) ∧ y ≤ j ∧ j ≤ y + s ∧ (∀ b k z, ¬ (b = a ∧ k = 29) → W b k z = V b k z) ∧ ∀ z, W a 29 z = if y ≤ z ∧ z < j then dv_xor (V a 29 z) (mk s x) else V a 29 z) (Q := fun q => ∃ V' : dV, q = (V', 0) ∧ (∀ b j z, ¬ (b = a ∧ j = 29) → V' b j z = V b j z) ∧ ∀ z, V' a 29 z = if y ≤ z ∧ z < y + s then dv_xor (V a 29 z) (mk s x) else V a 29 z) (m := fun q => (y + s - q.2.2.2.2.2).toNat) ?_ _ ⟨V, y, rfl, by omega, by omega, fun b k z _ => rfl, fun z => by rw [if_neg (by omega)]⟩
  rintro q ⟨W, j, rfl, j0, j1, hf, hz⟩
  simp only [f_X12_turnsSquare_3e, f_X12_turnsSquare_3c, bq]
  by_cases e : y + s ≤ j
  · rw [if_pos e]
    refine Or.inr ⟨_, rfl, W, rfl, hf, fun z => ?_⟩
    rw [hz, show j = y + s by omega]
  · rw [if_neg e]
    refine Or.inl ⟨_, rfl, ⟨_, j + 1, rfl, by omega, by omega, fun b k z w => ?_, fun z => ?_⟩, by dsimp only; omega⟩
    · unfold dv_u
      rw [if_neg (fun q => w ⟨q.1, q.2.1⟩)]
      exact hf b k z w
    · unfold dv_u
      by_cases w : z = j
      · rw [if_pos ⟨rfl, rfl, w⟩, if_pos (by omega), hz, if_neg (by omega), w]
        rfl
      · rw [if_neg (fun q => w q.2.2), hz]
        by_cases w1 : y ≤ z ∧ z < j
        · rw [if_pos w1, if_pos (by omega)]
        · rw [if_neg w1, if_neg (by omega)]
/-- what the floor φ covers -/
def cvd (φ : Nat → Int → Int) (n px py : Int) : Prop := ∃ c, 0 ≤ c ∧ c < n ∧ cov φ c px py
theorem q_covered (h : fb (kf (V a 2) 0)) (hw : ∀ c, 0 ≤ c → c < V a 2 69 → V a 2 (9 + c) ≠ -1 → V a 2 (9 + c) + V a 2 (29 + c) ≤ 12 ∧ V a 2 (18 + c) + V a 2 (29 + c) ≤ 12) (hd : dj (kf (V a 2) 0)) : ∃ V' : dV, f_X12_laysCovered V a = (V', 0) ∧ (∀ b j z, ¬ (b = a ∧ j = 29) → V' b j z = V b j z) ∧ ∀ py : Int, 0 ≤ py → py < 12 → ∀ i : Nat, i < 32 → (qb (V' a 29 py) i = true ↔ cvd (kf (V a 2) 0) (V a 2 69) (i : Int) py) := by
  have hn : 0 ≤ V a 2 69 ∧ V a 2 69 ≤ 9 := by have := h.1; simp only [kf, Int.zero_add] at this; exact this
  -- the second loop
  have L2 : ∀ W : dV, (∀ b j z, ¬ (b = a ∧ j = 29) → W b j z = V b j z) → (∀ py : Int, 0 ≤ py → py < 12 → W a 29 py = 0) → ∃ V' : dV, dv_lp f_X12_laysCovered_23b (W, a, 0) = Sum.inr (V', 0) ∧ (∀ b j z, ¬ (b = a ∧ j = 29) → V' b j z = V b j z) ∧ ∀ py : Int, 0 ≤ py → py < 12 → ∀ i : Nat, i < 32 → (qb (V' a 29 py) i = true ↔ cvd (kf (V a 2) 0) (V a 2 69) (i : Int) py) := by
    intro W hW h0
    refine dv_inv (P := fun q => ∃ (U : dV) (j : Int), q = (U, a, j) ∧ 0 ≤ j ∧ j ≤ V a 2 69 ∧ (∀ b k z, ¬ (b = a ∧ k = 29) → U b k z = V b k z) ∧ ∀ py : Int, 0 ≤ py → py < 12 → ∀ i : Nat, i < 32 → (qb (U a 29 py) i = true ↔ cvd (kf (V a 2) 0) j (i : Int) py)) (Q := fun q => ∃ V' : dV, q = Sum.inr (V', 0) ∧ (∀ b j z, ¬ (b = a ∧ j = 29) → V' b j z = V b j z) ∧ ∀ py : Int, 0 ≤ py → py < 12 → ∀ i : Nat, i < 32 → (qb (V' a 29 py) i = true ↔ cvd (kf (V a 2) 0) (V a 2 69) (i : Int) py)) (m := fun q => (V a 2 69 - q.2.2).toNat) ?_ _ ⟨W, 0, rfl, by omega, by omega, hW, fun py p0 p1 i hi => by rw [h0 py p0 p1, qb_0]; exact ⟨fun w => (by cases w), fun ⟨c, c0, c1, _⟩ => absurd c1 (by omega)⟩⟩
    rintro q ⟨U, j, rfl, j0, j1, hf, hz⟩
    have k2 : ∀ z, U a 2 z = V a 2 z := fun z => hf a 2 z (fun w => absurd w.2 (by decide))
    simp only [f_X12_laysCovered_23e, f_X12_laysCovered_23c, bq, bq2, q_many, q_mLaid, k2, qi0, qi1, qi2, qi3]
    by_cases e : V a 2 69 ≤ j
    · rw [if_pos e]
      refine Or.inr ⟨_, rfl, U, rfl, hf, ?_⟩
      rw [show V a 2 69 = j by omega]
      exact hz
    · rw [if_neg e]
      by_cases h3 : V a 2 (9 + j) = -1
      · rw [if_pos h3]
        refine Or.inl ⟨_, rfl, ⟨U, j + 1, rfl, by omega, by omega, hf, fun py p0 p1 i hi => ?_⟩, by dsimp only; omega⟩
        rw [hz py p0 p1 i hi]
        constructor
        · rintro ⟨c, c0, c1, w⟩; exact ⟨c, c0, by omega, w⟩
        · rintro ⟨c, c0, c1, w⟩
          by_cases wc : c = j
          · subst wc
            have w0 := w.1
            simp only [kf, Int.zero_add] at w0
            exact absurd h3 w0
          · exact ⟨c, c0, by omega, w⟩
      · rw [if_neg h3]
        have hc := h.2.2.2 j j0 (by simp only [kf, Int.zero_add]; omega)
        simp only [kf, Int.zero_add] at hc
        have hp := hc.2.resolve_left h3
        have hq := hw j j0 (by omega) h3
        obtain ⟨U', e1, f1, g1⟩ := q_turns (V := U) (a := a) (s := V a 2 (29 + j)) (x := V a 2 (9 + j)) (y := V a 2 (18 + j)) hc.1.1
        rw [e1]
        refine Or.inl ⟨_, rfl, ⟨U', j + 1, rfl, by omega, by omega, fun b k z w => (f1 b k z w).trans (hf b k z w), fun py p0 p1 i hi => ?_⟩, by dsimp only; omega⟩
        rw [g1]
        have hcj : cov (kf (V a 2) 0) j (i : Int) py ↔ (V a 2 (9 + j) ≤ (i : Int) ∧ (i : Int) < V a 2 (9 + j) + V a 2 (29 + j)) ∧ V a 2 (18 + j) ≤ py ∧ py < V a 2 (18 + j) + V a 2 (29 + j) := by
          unfold cov
          simp only [kf, Int.zero_add]
          constructor
          · rintro ⟨-, w1, w2, w3, w4⟩; exact ⟨⟨w1, w2⟩, w3, w4⟩
          · rintro ⟨⟨w1, w2⟩, w3, w4⟩; exact ⟨h3, w1, w2, w3, w4⟩
        have hs : cvd (kf (V a 2) 0) (j + 1) (i : Int) py ↔ cvd (kf (V a 2) 0) j (i : Int) py ∨ cov (kf (V a 2) 0) j (i : Int) py := by
          constructor
          · rintro ⟨c, c0, c1, w⟩
            by_cases wc : c = j
            · subst wc; exact Or.inr w
            · exact Or.inl ⟨c, c0, by omega, w⟩
          · rintro (⟨c, c0, c1, w⟩ | w)
            · exact ⟨c, c0, by omega, w⟩
            · exact ⟨j, j0, by omega, w⟩
        rw [hs]
        by_cases wy : V a 2 (18 + j) ≤ py ∧ py < V a 2 (18 + j) + V a 2 (29 + j)
        · rw [if_pos wy, qb_xor]
          have hm := qb_mk (s := V a 2 (29 + j)) (x := V a 2 (9 + j)) (i := i) hc.1.1 hc.1.2 hp.1 hp.2.1 hi
          have ho := hz py p0 p1 i hi
          by_cases wx : V a 2 (9 + j) ≤ (i : Int) ∧ (i : Int) < V a 2 (9 + j) + V a 2 (29 + j)
          · have hn : ¬ cvd (kf (V a 2) 0) j (i : Int) py := by
              rintro ⟨c, c0, c1, w⟩
              have := hd c j (i : Int) py c0 (by simp only [kf, Int.zero_add]; omega) j0 (by simp only [kf, Int.zero_add]; omega) w (hcj.mpr ⟨wx, wy⟩)
              omega
            rw [hm.mpr wx]
            have hu : qb (U a 29 py) i = false := by
              cases hv : qb (U a 29 py) i with
              | false => rfl
              | true => exact absurd (ho.mp hv) hn
            rw [hu]
            exact ⟨fun _ => Or.inr (hcj.mpr ⟨wx, wy⟩), fun _ => rfl⟩
          · have hmf : qb (mk (V a 2 (29 + j)) (V a 2 (9 + j))) i = false := by
              cases hv : qb (mk (V a 2 (29 + j)) (V a 2 (9 + j))) i with
              | false => rfl
              | true => exact absurd (hm.mp hv) wx
            rw [hmf, Bool.xor_false, ho]
            exact ⟨Or.inl, fun w => w.resolve_right (fun q => wx (hcj.mp q).1)⟩
        · rw [if_neg wy, hz py p0 p1 i hi]
          exact ⟨Or.inl, fun w => w.resolve_right (fun q => wy (hcj.mp q).2)⟩
  unfold f_X12_laysCovered
  refine dv_inv (P := fun q => ∃ (W : dV) (j : Int), q = (W, a, j) ∧ 0 ≤ j ∧ j ≤ 12 ∧ (∀ b k z, ¬ (b = a ∧ k = 29) → W b k z = V b k z) ∧ ∀ py : Int, 0 ≤ py → py < j → W a 29 py = 0) (Q := fun q => ∃ V' : dV, q = (V', 0) ∧ (∀ b j z, ¬ (b = a ∧ j = 29) → V' b j z = V b j z) ∧ ∀ py : Int, 0 ≤ py → py < 12 → ∀ i : Nat, i < 32 → (qb (V' a 29 py) i = true ↔ cvd (kf (V a 2) 0) (V a 2 69) (i : Int) py)) (m := fun q => (12 - q.2.2).toNat) ?_ _ ⟨V, 0, rfl, by omega, by omega, fun _ _ _ _ => rfl, fun py p0 p1 => absurd p1 (by omega)⟩
  rintro q ⟨W, j, rfl, j0, j1, hf, hz⟩
  simp only [f_X12_laysCovered_2e, f_X12_laysCovered_2c, bq]
  by_cases e : 12 ≤ j
  · rw [if_pos e]
    obtain ⟨V', e1, e2, e3⟩ := L2 W hf (fun py p0 p1 => hz py p0 (by omega))
    exact Or.inr ⟨_, e1, V', rfl, e2, e3⟩
  · rw [if_neg e]
    refine Or.inl ⟨_, rfl, ⟨_, j + 1, rfl, by omega, by omega, fun b k z w => ?_, fun py p0 p1 => ?_⟩, by dsimp only; omega⟩
    · unfold dv_u
      rw [if_neg (fun q => w ⟨q.1, q.2.1⟩)]
      exact hf b k z w
    · unfold dv_u
      by_cases w : py = j
      · rw [if_pos ⟨rfl, rfl, w⟩]
      · rw [if_neg (fun q => w q.2.2)]
        exact hz py p0 (by omega)
end QCOV
section QLIE
variable {V : dV} {a c x y s w h : Int}
theorem q_isFree (s0 : 0 ≤ s) : ∃ r : Int, f_X12_isFree V a s x y w h = (r, ()) ∧ (r = 1 ∨ r = 0) ∧ (r = 1 ↔ x + s ≤ w ∧ y + s ≤ h ∧ ∀ z, y ≤ z → z < y + s → dv_and (V a 29 z) (mk s x) = 0) := by
  have L : ∀ r0 : Int, (r0 = 1 ∨ r0 = 0) → ∃ r : Int, f_X12_isFree_21 V a s x y r0 = (r, ()) ∧ (r = 1 ∨ r = 0) ∧ (r = 1 ↔ r0 = 1 ∧ ∀ z, y ≤ z → z < y + s → dv_and (V a 29 z) (mk s x) = 0) := by
    intro r0 hr0
    unfold f_X12_isFree_21
    refine dv_inv (P := fun q => ∃ k j : Int, q = (V, a, s, x, y, k, j) ∧ y ≤ j ∧ j ≤ y + s ∧ (k = 1 ∨ k = 0) ∧ (k = 1 ↔ r0 = 1 ∧ ∀ z, y ≤ z → z < j → dv_and (V a 29 z) (mk s x) = 0)) (Q := fun q => ∃ r : Int, q = (r, ()) ∧ (r = 1 ∨ r = 0) ∧ (r = 1 ↔ r0 = 1 ∧ ∀ z, y ≤ z → z < y + s → dv_and (V a 29 z) (mk s x) = 0)) (m := fun q => (y + s - q.2.2.2.2.2.2).toNat) ?_ _ ⟨r0, y, rfl, by omega, by omega, hr0, ⟨fun e => ⟨e, fun z z0 z1 => absurd z1 (by omega)⟩, fun e => e.1⟩⟩
    rintro q ⟨k, j, rfl, j0, j1, hk, hz⟩
    simp only [f_X12_isFree_26e, f_X12_isFree_26c, bq]
    by_cases e : y + s ≤ j
    · rw [if_pos e]
      rw [show j = y + s by omega] at hz
      exact Or.inr ⟨_, rfl, k, rfl, hk, hz⟩
    · rw [if_neg e]
      by_cases e0 : k = 0
      · rw [if_pos e0]
        refine Or.inr ⟨_, rfl, k, rfl, hk, ⟨fun e1 => absurd e1 (by omega), fun e1 => ?_⟩⟩
        exact hz.mpr ⟨e1.1, fun z z0 z1 => e1.2 z z0 (by omega)⟩
      · rw [if_neg e0]
        have k1 : k = 1 := by omega
        have hz1 := hz.mp k1
        by_cases e1 : dv_and (V a 29 j) (mk s x) = 0
        · have e2 : ¬ dv_and (V a 29 j) (dv_shl (dv_sub (dv_shl 1 s) 1) x) ≠ 0 := fun q => q e1
          rw [if_neg e2]
          refine Or.inl ⟨_, rfl, ⟨1, j + 1, rfl, by omega, by omega, Or.inl rfl, ⟨fun _ => ⟨hz1.1, fun z z0 z1 => ?_⟩, fun _ => rfl⟩⟩, by dsimp only; omega⟩
          by_cases wz : z = j
          · rw [wz]; exact e1
          · exact hz1.2 z z0 (by omega)
        · have e2 : dv_and (V a 29 j) (dv_shl (dv_sub (dv_shl 1 s) 1) x) ≠ 0 := e1
          rw [if_pos e2]
          exact Or.inl ⟨_, rfl, ⟨0, j + 1, rfl, by omega, by omega, Or.inr rfl, ⟨fun q => absurd q (by decide), fun q => absurd (q.2 j j0 (by omega)) e1⟩⟩, by dsimp only; omega⟩
  unfold f_X12_isFree f_X12_isFree_20
  simp only [bq]
  by_cases e : w < x + s
  · rw [if_pos e]
    obtain ⟨r, h1, h2, h3⟩ := L 0 (Or.inr rfl)
    exact ⟨r, h1, h2, ⟨fun q => absurd (h3.mp q).1 (by decide), fun q => absurd q.1 (by omega)⟩⟩
  · rw [if_neg e]
    by_cases e1 : h < y + s
    · rw [if_pos e1]
      obtain ⟨r, h1, h2, h3⟩ := L 0 (Or.inr rfl)
      exact ⟨r, h1, h2, ⟨fun q => absurd (h3.mp q).1 (by decide), fun q => absurd q.2.1 (by omega)⟩⟩
    · rw [if_neg e1]
      obtain ⟨r, h1, h2, h3⟩ := L 1 (Or.inl rfl)
      exact ⟨r, h1, h2, ⟨fun q => ⟨by omega, by omega, (h3.mp q).2⟩, fun q => h3.mpr ⟨rfl, q.2.2⟩⟩⟩
/-- a carpet's place: rolled, no rags, within the hall, nothing covers its cells -/
def plc (φ : Nat → Int → Int) (c x y : Int) : Prop := (0 ≤ c ∧ c < φ 7 0) ∧ (φ 3 c = -1 ∧ 0 < φ 2 c) ∧ (0 ≤ x ∧ 0 ≤ y) ∧ (x + φ 0 c ≤ φ 8 0 ∧ y + φ 0 c ≤ φ 9 0) ∧ ∀ d, 0 ≤ d → d < φ 7 0 → φ 3 d ≠ -1 → ¬ (x < φ 3 d + φ 0 d ∧ φ 3 d < x + φ 0 c ∧ y < φ 4 d + φ 0 d ∧ φ 4 d < y + φ 0 c)
theorem ef_plc {φ ψ : Nat → Int → Int} (e : ef φ ψ) (hb : φ 7 0 ≤ 9) : plc φ c x y ↔ plc ψ c x y := by
  have e1 := e.1
  obtain ⟨-, -, e7, e8, e9, -⟩ := e
  unfold plc
  rw [e7] at hb
  rw [e7, e8, e9]
  constructor
  · rintro ⟨h1, h2, h3, h4, h5⟩
    obtain ⟨k0, -, k2, k3, -⟩ := e1 c h1.1 (by omega)
    rw [← k0, ← k2, ← k3]
    refine ⟨h1, h2, h3, h4, fun d d0 d1 hd => ?_⟩
    obtain ⟨l0, -, -, l3, l4⟩ := e1 d d0 (by omega)
    rw [← l0, ← l3, ← l4]
    exact h5 d d0 d1 (by rw [l3]; exact hd)
  · rintro ⟨h1, h2, h3, h4, h5⟩
    obtain ⟨k0, -, k2, k3, -⟩ := e1 c h1.1 (by omega)
    rw [k0, k2, k3]
    refine ⟨h1, h2, h3, h4, fun d d0 d1 hd => ?_⟩
    obtain ⟨l0, -, -, l3, l4⟩ := e1 d d0 (by omega)
    rw [l0, l3, l4]
    exact h5 d d0 d1 (by rw [← l3]; exact hd)
theorem q_hasPlace (hf : fb (V a)) (hx : x ≤ 11) (hy : y ≤ 11) : ∃ r : Int, f_X1_hasPlaceFor V a c x y = (r, ()) ∧ (r = 1 ∧ plc (V a) c x y ∨ r = 0 ∧ ¬ plc (V a) c x y) := by
  unfold f_X1_hasPlaceFor
  simp only [bq, bq2, q_isReady, qi0, qi1, qi2, qi3]
  by_cases e : (0 ≤ c ∧ c < V a 7 0) ∧ V a 3 c = -1 ∧ 0 < V a 2 c
  · have hc := hf.2.2.2 c e.1.1 e.1.2
    rw [if_pos e]
    by_cases e1 : x < 0
    · rw [if_pos e1]; exact ⟨0, rfl, Or.inr ⟨rfl, fun q => absurd q.2.2.1.1 (by omega)⟩⟩
    · rw [if_neg e1]
      by_cases e2 : y < 0
      · rw [if_pos e2]; exact ⟨0, rfl, Or.inr ⟨rfl, fun q => absurd q.2.2.1.2 (by omega)⟩⟩
      · rw [if_neg e2]
        by_cases e3 : V a 8 0 - V a 0 c < x
        · rw [if_pos e3]; exact ⟨0, rfl, Or.inr ⟨rfl, fun q => absurd q.2.2.2.1.1 (by omega)⟩⟩
        · rw [if_neg e3]
          by_cases e4 : y ≤ V a 9 0 - V a 0 c
          · rw [if_pos e4]
            refine dv_inv (P := fun q => ∃ j : Int, q = (V, a, c, x, y, j) ∧ 0 ≤ j ∧ j ≤ V a 7 0 ∧ ∀ d, 0 ≤ d → d < j → V a 3 d ≠ -1 → ¬ (x < V a 3 d + V a 0 d ∧ V a 3 d < x + V a 0 c ∧ y < V a 4 d + V a 0 d ∧ V a 4 d < y + V a 0 c)) (Q := fun q => ∃ r : Int, q = (r, ()) ∧ (r = 1 ∧ plc (V a) c x y ∨ r = 0 ∧ ¬ plc (V a) c x y)) (m := fun q => (V a 7 0 - q.2.2.2.2.2).toNat) ?_ _ ⟨0, rfl, by omega, hf.1.1, fun d d0 d1 => absurd d1 (by omega)⟩
            rintro q ⟨j, rfl, j0, j1, hz⟩
            simp only [f_X1_hasPlaceFor_51e, f_X1_hasPlaceFor_51c, f_X1_hasPlaceFor_145, bq, bq2, q_isLaid, qi0, qi1, qi2, qi3]
            by_cases k : V a 7 0 ≤ j
            · rw [if_pos k]
              exact Or.inr ⟨_, rfl, 1, rfl, Or.inl ⟨rfl, e.1, e.2, ⟨by omega, by omega⟩, ⟨by omega, by omega⟩, fun d d0 d1 => hz d d0 (by omega)⟩⟩
            · rw [if_neg k]
              have hj := hf.2.2.2 j j0 (by omega)
              by_cases h3 : V a 3 j = -1
              · rw [if_neg (by omega)]
                refine Or.inl ⟨_, rfl, ⟨j + 1, rfl, by omega, by omega, fun d d0 d1 hd => ?_⟩, by dsimp only; omega⟩
                by_cases wd : d = j
                · subst wd; exact absurd h3 hd
                · exact hz d d0 (by omega) hd
              · have hp := hj.2.resolve_left h3
                rw [if_pos ⟨by omega, by omega, h3⟩, dv_add_ok (by omega) (by omega) (by omega) (by omega) (by omega) (by omega), dv_add_ok (by omega) (by omega) (by omega) (by omega) (by omega) (by omega)]
                by_cases wv : x < V a 3 j + V a 0 j ∧ V a 3 j < x + V a 0 c ∧ y < V a 4 j + V a 0 j ∧ V a 4 j < y + V a 0 c
                · rw [if_neg (by omega), if_neg (by omega), if_neg (by omega), if_neg (by omega)]
                  exact Or.inr ⟨_, rfl, 0, rfl, Or.inr ⟨rfl, fun q => q.2.2.2.2 j j0 (by omega) h3 wv⟩⟩
                · have hs : (if V a 3 j + V a 0 j ≤ x then (Sum.inl (V, a, c, x, y, j + 1) : Sum (dV × Int × Int × Int × Int × Int) dP) else if x + V a 0 c ≤ V a 3 j then Sum.inl (V, a, c, x, y, j + 1) else if V a 4 j + V a 0 j ≤ y then Sum.inl (V, a, c, x, y, j + 1) else if y + V a 0 c ≤ V a 4 j then Sum.inl (V, a, c, x, y, j + 1) else Sum.inr (0, ())) = Sum.inl (V, a, c, x, y, j + 1) := by
                    split
                    · rfl
                    · split
                      · rfl
                      · split
                        · rfl
                        · split
                          · rfl
                          · exact absurd ⟨by omega, by omega, by omega, by omega⟩ wv
                  rw [hs]
                  refine Or.inl ⟨_, rfl, ⟨j + 1, rfl, by omega, by omega, fun d d0 d1 hd => ?_⟩, by dsimp only; omega⟩
                  by_cases wd : d = j
                  · subst wd; exact wv
                  · exact hz d d0 (by omega) hd
          · rw [if_neg e4]; exact ⟨0, rfl, Or.inr ⟨rfl, fun q => absurd q.2.2.2.1.2 (by omega)⟩⟩
  · rw [if_neg e]
    exact ⟨0, rfl, Or.inr ⟨rfl, fun q => e ⟨q.1, q.2.1⟩⟩⟩
/-- the reference's floor is as it must be -/
def kgf (φ : Nat → Int → Int) : Prop := fb φ ∧ dj φ ∧ (∀ c, 0 ≤ c → c < φ 7 0 → 1 ≤ φ 0 c ∧ 0 ≤ φ 1 c ∧ φ 1 c ≤ 3 ∧ 0 ≤ φ 2 c ∧ φ 2 c ≤ 9) ∧ (∀ c, 0 ≤ c → c < φ 7 0 → φ 3 c ≠ -1 → φ 3 c + φ 0 c ≤ φ 8 0 ∧ φ 4 c + φ 0 c ≤ φ 9 0) ∧ (1 ≤ φ 8 0 ∧ 1 ≤ φ 9 0) ∧ (0 ≤ φ 10 0 ∧ φ 10 0 ≤ 9999) ∧ (0 ≤ φ 5 0 ∧ φ 5 0 ≤ 999) ∧ (0 ≤ φ 5 1 ∧ φ 5 1 ≤ 10) ∧ 0 ≤ φ 5 2 ∧ φ 5 2 ≤ 9
/-- behind laysCovered: whether the carpet has its place -/
theorem q_free_plc {W : dV} (hk : kgf (kf (V a 2) 0)) (hcv : ∀ py : Int, 0 ≤ py → py < 12 → ∀ i : Nat, i < 32 → (qb (W a 29 py) i = true ↔ cvd (kf (V a 2) 0) (V a 2 69) (i : Int) py)) (c0 : 0 ≤ c) (c1 : c < V a 2 69) (hx0 : 0 ≤ x) (hy0 : 0 ≤ y) (hx : x ≤ 11) (hy : y ≤ 11) (hr : V a 2 (9 + c) = -1) (hp : 0 < V a 2 c) : (x + V a 2 (29 + c) ≤ V a 2 67 ∧ y + V a 2 (29 + c) ≤ V a 2 68 ∧ ∀ z, y ≤ z → z < y + V a 2 (29 + c) → dv_and (W a 29 z) (mk (V a 2 (29 + c)) x) = 0) ↔ plc (kf (V a 2) 0) c x y := by
  obtain ⟨hb, hd, hs, hl, hwh, -⟩ := hk
  simp only [kf, Int.zero_add] at hs hl hwh
  have hb' := hb
  unfold fb at hb'
  simp only [kf, Int.zero_add] at hb'
  obtain ⟨h7, h8, h9, hc⟩ := hb'
  have hcc := hc c c0 c1
  have hsc := hs c c0 c1
  unfold plc
  simp only [kf, Int.zero_add]
  constructor
  · rintro ⟨w1, w2, w3⟩
    refine ⟨⟨c0, c1⟩, ⟨hr, hp⟩, ⟨hx0, hy0⟩, ⟨w1, w2⟩, fun d d0 d1 hd3 ov => ?_⟩
    have hdd := hc d d0 d1
    have hpd := hdd.2.resolve_left hd3
    have hld := hl d d0 d1 hd3
    have hsd := hs d d0 d1
    -- a cell of both
    have hz := w3 (max y (V a 2 (18 + d))) (by omega) (by omega)
    have hz1 := qb_and0.mp hz (max x (V a 2 (9 + d))).toNat (by omega)
    refine hz1 ⟨(hcv _ (by omega) (by omega) _ (by omega)).mpr ⟨d, d0, d1, ?_⟩, (qb_mk hcc.1.1 hcc.1.2 hx0 (by omega) (by omega)).mpr (by omega)⟩
    unfold cov
    simp only [kf, Int.zero_add]
    exact ⟨hd3, by omega, by omega, by omega, by omega⟩
  · rintro ⟨-, -, -, ⟨w1, w2⟩, w3⟩
    refine ⟨w1, w2, fun z z0 z1 => qb_and0.mpr fun i hi hq => ?_⟩
    obtain ⟨q1, q2⟩ := hq
    have hm := (qb_mk hcc.1.1 hcc.1.2 hx0 (by omega) hi).mp q2
    obtain ⟨d, d0, d1, w⟩ := (hcv z (by omega) (by omega) i hi).mp q1
    unfold cov at w
    simp only [kf, Int.zero_add] at w
    exact w3 d d0 d1 w.1 ⟨by omega, by omega, by omega, by omega⟩
end QLIE
section QE9
variable {φ ψ : Nat → Int → Int} {K : Int → Int} {c x y : Int}
/-- as ef, but for what was paid -/
def ef9 (φ ψ : Nat → Int → Int) : Prop := (∀ c, 0 ≤ c → c < 9 → φ 0 c = ψ 0 c ∧ φ 1 c = ψ 1 c ∧ φ 2 c = ψ 2 c ∧ φ 3 c = ψ 3 c ∧ φ 4 c = ψ 4 c) ∧ (φ 5 0 = ψ 5 0 ∧ φ 5 1 = ψ 5 1 ∧ φ 5 2 = ψ 5 2) ∧ φ 7 0 = ψ 7 0 ∧ φ 8 0 = ψ 8 0 ∧ φ 9 0 = ψ 9 0
theorem ef_9 (e : ef φ ψ) : ef9 φ ψ := ⟨e.1, e.2.1, e.2.2.1, e.2.2.2.1, e.2.2.2.2.1⟩
theorem ef_10 (e : ef9 φ ψ) (h : φ 10 0 = ψ 10 0) : ef φ ψ := ⟨e.1, e.2.1, e.2.2.1, e.2.2.2.1, e.2.2.2.2, h⟩
theorem ef9_plc (e : ef9 φ ψ) (hb : φ 7 0 ≤ 9) : plc φ c x y ↔ plc ψ c x y := by
  have e0 : ef (fun j z => if j = 10 then ψ 10 0 else φ j z) ψ := ef_10 (φ := fun j z => if j = 10 then ψ 10 0 else φ j z) e rfl
  have r : plc (fun j z => if j = 10 then ψ 10 0 else φ j z) c x y ↔ plc ψ c x y := ef_plc e0 hb
  exact r
theorem ef9_n (e : ef9 φ (kf K 0)) : φ 7 0 = K 69 ∧ φ 8 0 = K 67 ∧ φ 9 0 = K 68 ∧ φ 5 0 = K 28 ∧ φ 5 1 = K 65 ∧ φ 5 2 = K 66 ∧ ∀ c, 0 ≤ c → c < 9 → φ 0 c = K (29 + c) ∧ φ 1 c = K (38 + c) ∧ φ 2 c = K c ∧ φ 3 c = K (9 + c) ∧ φ 4 c = K (18 + c) := by
  obtain ⟨e1, ⟨e2, e3, e4⟩, e5, e6, e7⟩ := e
  simp only [kf, Int.zero_add] at e1 e2 e3 e4 e5 e6 e7
  rw [if_pos trivial] at e2
  rw [if_neg (by decide)] at e3 e4
  exact ⟨e5, e6, e7, e2, e3, e4, e1⟩
theorem ef9_of (h : φ 7 0 = K 69 ∧ φ 8 0 = K 67 ∧ φ 9 0 = K 68 ∧ φ 5 0 = K 28 ∧ φ 5 1 = K 65 ∧ φ 5 2 = K 66 ∧ ∀ c, 0 ≤ c → c < 9 → φ 0 c = K (29 + c) ∧ φ 1 c = K (38 + c) ∧ φ 2 c = K c ∧ φ 3 c = K (9 + c) ∧ φ 4 c = K (18 + c)) : ef9 φ (kf K 0) := by
  obtain ⟨e5, e6, e7, e2, e3, e4, e1⟩ := h
  unfold ef9
  simp only [kf, Int.zero_add]
  rw [if_pos trivial, if_neg (by decide), if_neg (by decide)]
  exact ⟨e1, ⟨e2, e3, e4⟩, e5, e6, e7⟩
end QE9
section QDEN
/-- what a SUM, a TEST says by the words (none: BROKEN) -/
abbrev dn : Type := (Int → Int) → Option Int
def d_bd (v : Int) : Option Int := if v > 1000000000 ∨ v < -1000000000 then none else some v
def d_cal (c a b : Int) : Option Int := if c = 143 then d_bd (a + b) else if c = 145 then d_bd (a - b) else if c = 142 then d_bd (a * b) else if b = 0 then none else if c = 147 then d_bd (a.tdiv b) else d_bd (a.tmod b)
def d_op (c : Int) (A B : dn) : dn := fun w => match A w with
  | none => none
  | some a => match B w with
    | none => none
    | some b => d_cal c a b
def d_rel (c a b : Int) : Int := if c = 160 then (if a < b then 1 else 0) else if c = 162 then (if b < a then 1 else 0) else if a = b then 1 else 0
def d_cmp (c : Int) (A B : dn) : dn := fun w => match A w with
  | none => none
  | some a => match B w with
    | none => none
    | some b => some (d_rel c a b)
def d_not (A : dn) : dn := fun w => match A w with
  | none => none
  | some a => some (1 - a)
def d_and (A B : dn) : dn := fun w => match A w with
  | none => none
  | some a => if a = 0 then some 0 else B w
def d_or (A B : dn) : dn := fun w => match A w with
  | none => none
  | some a => if a = 0 then B w else some a
def d_lw (c : Int) : Int := if c = 8 then 0 else if c = 9 then 1 else if c = 10 then 2 else if c = 11 then 4 else if c = 12 then 5 else if c = 13 then 7 else if c = 14 then 3 else 6
/-- a NUMBER or a word: of a law (o 0), of orders (o 1) -/
def D_leaf (o : Int) (cd vl : Int → Int) (i j : Int) (A : dn) : Prop := (cd i = 50 ∧ (0 ≤ vl i ∧ vl i ≤ 1000) ∧ j = i + 1 ∧ A = fun _ => some (vl i)) ∨ (o = 0 ∧ (8 ≤ cd i ∧ cd i ≤ 15) ∧ j = i + 1 ∧ A = fun w => some (w (d_lw (cd i)))) ∨ (o = 1 ∧ (cd i = 14 ∨ cd i = 20) ∧ (cd (i + 1) = 50 ∧ 0 ≤ vl (i + 1) ∧ vl (i + 1) ≤ 8) ∧ j = i + 2 ∧ A = fun w => some (w ((if cd i = 14 then 5 else 14) + vl (i + 1)))) ∨ (o = 1 ∧ (15 ≤ cd i ∧ cd i ≤ 19) ∧ j = i + 1 ∧ A = fun w => some (w (cd i - 15)))
/-- from A, ending at i: n times an operator and what it joins -/
def d_ch (isop : Int → Prop) (cd : Int → Int) (El : Int → Int → dn → Prop) (op : Int → dn → dn → dn) : Nat → Int → dn → Int → dn → Prop
  | 0, i, A, j, R => i = j ∧ A = R ∧ ¬ isop (cd i)
  | n + 1, i, A, j, R => isop (cd i) ∧ ∃ (m : Int) (B : dn), El (i + 1) m B ∧ d_ch isop cd El op n m (op (cd i) A B) j R
def d_mul (c : Int) : Prop := c = 142 ∨ c = 147 ∨ c = 137
def d_add (c : Int) : Prop := c = 143 ∨ c = 145
def D_termF (cd : Int → Int) (P : Int → Int → dn → Prop) (i j : Int) (A : dn) : Prop := ∃ (m : Int) (B : dn) (n : Nat), P i m B ∧ d_ch d_mul cd P d_op n m B j A
def D_sumF (cd : Int → Int) (P : Int → Int → dn → Prop) (i j : Int) (A : dn) : Prop := ∃ (m : Int) (B : dn) (n : Nat), D_termF cd P i m B ∧ d_ch d_add cd (D_termF cd P) d_op n m B j A
def D_part (o : Int) (cd vl : Int → Int) : Nat → Int → Int → dn → Prop
  | 0 => D_leaf o cd vl
  | d + 1 => fun i j A => D_leaf o cd vl i j A ∨ (cd i = 191 ∧ D_sumF cd (D_part o cd vl d) (i + 1) (j - 1) A ∧ cd (j - 1) = 193)
def D_sum (o : Int) (cd vl : Int → Int) (d : Nat) : Int → Int → dn → Prop := D_sumF cd (D_part o cd vl d)
def D_comp (o : Int) (cd vl : Int → Int) (d : Nat) (i j : Int) (A : dn) : Prop := ∃ (m : Int) (B C : dn), D_sum o cd vl d i m B ∧ (cd m = 160 ∨ cd m = 162 ∨ cd m = 161) ∧ D_sum o cd vl d (m + 1) j C ∧ A = d_cmp (cd m) B C
def d_nots (n : Nat) (B : dn) : dn := if n % 2 = 0 then B else d_not B
def D_plainF (cd : Int → Int) (P : Int → Int → dn → Prop) (i j : Int) (A : dn) : Prop := ∃ (n : Nat) (B : dn), (∀ k : Nat, k < n → cd (i + k) = 7) ∧ cd (i + n) ≠ 7 ∧ P (i + n) j B ∧ A = d_nots n B
def D_bothF (cd : Int → Int) (P : Int → Int → dn → Prop) (i j : Int) (A : dn) : Prop := ∃ (m : Int) (B : dn) (n : Nat), D_plainF cd P i m B ∧ d_ch (fun c => c = 6) cd (D_plainF cd P) (fun _ => d_and) n m B j A
def D_testF (cd : Int → Int) (P : Int → Int → dn → Prop) (i j : Int) (A : dn) : Prop := ∃ (m : Int) (B : dn) (n : Nat), D_bothF cd P i m B ∧ d_ch (fun c => c = 5) cd (D_bothF cd P) (fun _ => d_or) n m B j A
def D_pos (o : Int) (cd vl : Int → Int) : Nat → Int → Int → dn → Prop
  | 0 => D_comp o cd vl 0
  | d + 1 => fun i j A => D_comp o cd vl (d + 1) i j A ∨ (cd i = 140 ∧ D_testF cd (D_pos o cd vl d) (i + 1) (j - 1) A ∧ cd (j - 1) = 141)
def D_test (o : Int) (cd vl : Int → Int) (d : Nat) : Int → Int → dn → Prop := D_testF cd (D_pos o cd vl d)
/-- what they say stays within 1,000,000,000 -/
def d_in (A : dn) : Prop := ∀ w : Int → Int, (∀ k, -2147483648 ≤ w k ∧ w k ≤ 2147483647) → ∀ x, A w = some x → -2147483648 ≤ x ∧ x ≤ 2147483647
theorem d_bd_in {v x : Int} (h : d_bd v = some x) : x = v ∧ -2147483648 ≤ x ∧ x ≤ 2147483647 := by
  unfold d_bd at h
  split at h
  · cases h
  · cases h
    exact ⟨rfl, by omega, by omega⟩
theorem d_cal_in {c a b x : Int} (h : d_cal c a b = some x) : -2147483648 ≤ x ∧ x ≤ 2147483647 := by
  unfold d_cal at h
  repeat (split at h; first | exact (d_bd_in h).2 | cases h)
  exact (d_bd_in h).2
theorem d_op_in {c : Int} {A B : dn} : d_in (d_op c A B) := by
  intro w _ x h
  unfold d_op at h
  split at h
  · cases h
  · split at h
    · cases h
    · exact d_cal_in h
theorem D_leaf_in {o : Int} {cd vl : Int → Int} {i j : Int} {A : dn} (h : D_leaf o cd vl i j A) : d_in A := by
  intro w hw x hx
  rcases h with ⟨-, h1, -, rfl⟩ | ⟨-, -, -, rfl⟩ | ⟨-, -, -, -, rfl⟩ | ⟨-, -, -, rfl⟩
  · cases hx; omega
  · cases hx; exact hw _
  · cases hx; exact hw _
  · cases hx; exact hw _
theorem d_ch_in {isop : Int → Prop} {cd : Int → Int} {El : Int → Int → dn → Prop} {n : Nat} : ∀ {i : Int} {A : dn} {j : Int} {R : dn}, d_in A → d_ch isop cd El d_op n i A j R → d_in R := by
  induction n with
  | zero => rintro i A j R hA ⟨-, rfl, -⟩; exact hA
  | succ n ih => rintro i A j R hA ⟨-, m, B, -, h⟩; exact ih d_op_in h
theorem D_termF_in {cd : Int → Int} {P : Int → Int → dn → Prop} (hP : ∀ i j A, P i j A → d_in A) {i j : Int} {A : dn} (h : D_termF cd P i j A) : d_in A := by
  obtain ⟨m, B, n, h1, h2⟩ := h
  exact d_ch_in (hP _ _ _ h1) h2
theorem D_sumF_in {cd : Int → Int} {P : Int → Int → dn → Prop} (hP : ∀ i j A, P i j A → d_in A) {i j : Int} {A : dn} (h : D_sumF cd P i j A) : d_in A := by
  obtain ⟨m, B, n, h1, h2⟩ := h
  exact d_ch_in (D_termF_in hP h1) h2
theorem D_part_in {o : Int} {cd vl : Int → Int} {d : Nat} : ∀ {i j : Int} {A : dn}, D_part o cd vl d i j A → d_in A := by
  induction d with
  | zero => intro i j A h; exact D_leaf_in h
  | succ d ih =>
    rintro i j A (h | ⟨-, h, -⟩)
    · exact D_leaf_in h
    · exact D_sumF_in (fun _ _ _ => ih) h
theorem D_sum_in {o : Int} {cd vl : Int → Int} {d : Nat} {i j : Int} {A : dn} (h : D_sum o cd vl d i j A) : d_in A := D_sumF_in (fun _ _ _ => D_part_in) h
end QDEN
section QL64
theorem dv_bm6 {n : Int} (h1 : -9223372036854775808 ≤ n) (h2 : n ≤ 9223372036854775807) : n.bmod (2 ^ 64) = n := by
  apply Int.bmod_eq_of_le <;> omega
theorem dv_lof {n : Int} (h1 : -9223372036854775808 ≤ n) (h2 : n ≤ 9223372036854775807) : (Int64.ofInt n).toInt = n := by
  rw [Int64.toInt_ofInt]; exact dv_bm6 h1 h2
/-- within 10 ^ 18 -/
def lb (n : Int) : Prop := -1000000000000000001 ≤ n ∧ n ≤ 1000000000000000001
theorem dv_ladd_ok {a b : Int} (ha : lb a) (hb : lb b) : dv_ladd a b = a + b := by
  unfold lb at ha hb; unfold dv_ladd
  rw [Int64.toInt_add, dv_lof (by omega) (by omega), dv_lof (by omega) (by omega)]; exact dv_bm6 (by omega) (by omega)
theorem dv_lsub_ok {a b : Int} (ha : lb a) (hb : lb b) : dv_lsub a b = a - b := by
  unfold lb at ha hb; unfold dv_lsub
  rw [Int64.toInt_sub, dv_lof (by omega) (by omega), dv_lof (by omega) (by omega)]; exact dv_bm6 (by omega) (by omega)
theorem mul_bd {a b : Int} (ha : -2147483648 ≤ a ∧ a ≤ 2147483648) (hb : -2147483648 ≤ b ∧ b ≤ 2147483647) : -4611686018427387904 ≤ a * b ∧ a * b ≤ 4611686018427387904 := by
  have h1 : (a * b).natAbs ≤ 2147483648 * 2147483648 := by
    rw [Int.natAbs_mul]
    exact Nat.mul_le_mul (by omega) (by omega)
  omega
theorem dv_lmul_ok {a b : Int} (ha : -2147483648 ≤ a ∧ a ≤ 2147483647) (hb : -2147483648 ≤ b ∧ b ≤ 2147483647) : dv_lmul a b = a * b := by
  have h := mul_bd ⟨ha.1, by omega⟩ hb
  unfold dv_lmul
  rw [Int64.toInt_mul, dv_lof (by omega) (by omega), dv_lof (by omega) (by omega)]; exact dv_bm6 (by omega) (by omega)
theorem tdiv_bd {a b : Int} (ha : -2147483648 ≤ a ∧ a ≤ 2147483647) : -2147483648 ≤ a.tdiv b ∧ a.tdiv b ≤ 2147483648 := by
  have h1 : (a.tdiv b).natAbs ≤ a.natAbs := by
    rw [Int.natAbs_tdiv]
    exact Nat.div_le_self _ _
  omega
theorem dv_ldiv_ok {a b : Int} (ha : -2147483648 ≤ a ∧ a ≤ 2147483647) (hb : -2147483648 ≤ b ∧ b ≤ 2147483647) : dv_ldiv a b = a.tdiv b := by
  have h := tdiv_bd (b := b) ha
  unfold dv_ldiv
  rw [Int64.toInt_div, dv_lof (by omega) (by omega), dv_lof (by omega) (by omega)]; exact dv_bm6 (by omega) (by omega)
theorem dv_lrem_ok {a b : Int} (ha : -2147483648 ≤ a ∧ a ≤ 2147483647) (hb : -2147483648 ≤ b ∧ b ≤ 2147483647) : dv_lrem a b = a.tmod b := by
  have h := tdiv_bd (b := b) ha
  have h2 := mul_bd h hb
  have h3 := dv_ldiv_ok ha hb
  unfold dv_ldiv at h3
  unfold dv_lrem
  rw [Int64.toInt_sub, Int64.toInt_mul, h3, dv_lof (by omega) (by omega), dv_lof (by omega) (by omega), dv_bm6 (n := a.tdiv b * b) (by omega) (by omega)]
  have h4 := Int.tmod_add_mul_tdiv a b
  rw [Int.mul_comm] at h4
  have h5 : (a.tmod b).natAbs ≤ a.natAbs := by
    rw [Int.natAbs_tmod]
    exact Nat.mod_le _ _
  rw [dv_bm6 (by omega) (by omega)]
  omega
theorem lcmp_lt {a b : Int} : dv_lcmp a b < 0 ↔ a < b := by unfold dv_lcmp; split <;> (try split) <;> omega
theorem lcmp_gt {a b : Int} : 0 < dv_lcmp a b ↔ b < a := by unfold dv_lcmp; split <;> (try split) <;> omega
theorem lcmp_eq {a b : Int} : dv_lcmp a b = 0 ↔ a = b := by unfold dv_lcmp; split <;> (try split) <;> omega
theorem lcmp_le {a b : Int} : dv_lcmp a b ≤ 0 ↔ a ≤ b := by unfold dv_lcmp; split <;> (try split) <;> omega
theorem lcmp_ge {a b : Int} : 0 ≤ dv_lcmp a b ↔ b ≤ a := by unfold dv_lcmp; split <;> (try split) <;> omega
end QL64
section QER
variable {a B o : Int} {cd vl w : Int → Int} {V V' V1 : dV}
/-- only go and broken of the reference have changed -/
def ex_fr (a : Int) (V V' : dV) : Prop := ∀ b j z, ¬ (b = a ∧ (j = 22 ∨ j = 24)) → V' b j z = V b j z
theorem ex_fr_r : ex_fr a V V := fun _ _ _ _ => rfl
theorem ex_fr_t (h : ex_fr a V V') (h1 : ex_fr a V' V1) : ex_fr a V V1 := fun b j z k => (h1 b j z k).trans (h b j z k)
theorem ex_fr_22 {x : Int} : ex_fr a V (dv_u V a 22 0 x) := fun b j z k => by
  unfold dv_u; rw [if_neg (fun q => k ⟨q.1, Or.inl q.2.1⟩)]
theorem ex_fr_24 {x : Int} : ex_fr a V (dv_u V a 24 0 x) := fun b j z k => by
  unfold dv_u; rw [if_neg (fun q => k ⟨q.1, Or.inr q.2.1⟩)]
theorem u22 {x : Int} : dv_u V a 22 0 x a 22 0 = x := by unfold dv_u; rw [if_pos ⟨rfl, rfl, rfl⟩]
theorem u24 {x : Int} : dv_u V a 24 0 x a 24 0 = x := by unfold dv_u; rw [if_pos ⟨rfl, rfl, rfl⟩]
theorem u22_24 {x : Int} : dv_u V a 22 0 x a 24 0 = V a 24 0 := by unfold dv_u; rw [if_neg (fun q => absurd q.2.1 (by decide))]
theorem u24_22 {x : Int} : dv_u V a 24 0 x a 22 0 = V a 22 0 := by unfold dv_u; rw [if_neg (fun q => absurd q.2.1 (by decide))]
/-- what the words of orders are worth, however far one has read -/
def ex_ow (a : Int) (w : Int → Int) (V : dV) : Prop := ∀ V' : dV, ex_fr a V V' → (∀ k, 0 ≤ k → k ≤ 8 → f_X12_orderValue V' a 14 k = (w (5 + k), ())) ∧ (∀ k, 0 ≤ k → k ≤ 8 → f_X12_orderValue V' a 20 k = (w (14 + k), ())) ∧ ∀ c k, 15 ≤ c → c ≤ 19 → f_X12_orderValue V' a c k = (w (c - 15), ())
/-- the reference reads the text (cd, vl) at B, of kind o, with the words w -/
def ex_cx (o : Int) (cd vl w : Int → Int) (a B : Int) (V : dV) : Prop := (∀ i, 0 ≤ i → cd i = if B + i < V a 23 0 then V a 2 (80 + (B + i)) else 0) ∧ (∀ i, 0 ≤ i → vl i = V a 2 (2880 + (B + i))) ∧ V a 25 0 = o ∧ (o = 0 → ∀ c, 8 ≤ c → c ≤ 15 → V a 26 (c - 8) = w (d_lw c)) ∧ (o ≠ 0 → ex_ow a w V)
theorem ex_cx_f (h : ex_cx o cd vl w a B V) (hf : ex_fr a V V') : ex_cx o cd vl w a B V' := by
  obtain ⟨h1, h2, h3, h4, h5⟩ := h
  have k : ∀ j z, j ≠ 22 → j ≠ 24 → V' a j z = V a j z := fun j z n1 n2 => hf a j z (fun q => q.2.elim n1 n2)
  refine ⟨fun i hi => ?_, fun i hi => ?_, ?_, fun e c c0 c1 => ?_, fun e V1 hf1 => h5 e V1 (ex_fr_t hf hf1)⟩
  · rw [k 23 0 (by decide) (by decide), k 2 _ (by decide) (by decide)]; exact h1 i hi
  · rw [k 2 _ (by decide) (by decide)]; exact h2 i hi
  · rw [k 25 0 (by decide) (by decide)]; exact h3
  · rw [k 26 _ (by decide) (by decide)]; exact h4 e c c0 c1
theorem q_codeAt (h : ex_cx o cd vl w a B V) {i x : Int} (hi : 0 ≤ i) (hx : x = B + i) : f_X12_codeAt V a x = (cd i, ()) := by
  unfold f_X12_codeAt
  simp only [bq]
  rw [h.1 i hi, hx]
  by_cases e : V a 23 0 ≤ B + i
  · rw [if_pos e, if_neg (by omega)]
  · rw [if_neg e, if_pos (by omega)]
theorem q_sign {x : Int} : f_X12_sign V x = (100 + x, ()) := by
  unfold f_X12_sign
  simp only [bq]
/-- whether it is broken behind it, and what it tells -/
def ex_rs (live b0 : Int) (x : Option Int) (b v : Int) : Prop := if live = 0 then (b = 0 ↔ b0 = 0) else if b0 ≠ 0 then b ≠ 0 else match x with
  | none => b ≠ 0
  | some y => b = 0 ∧ v = y
/-- a reading method computes what P says -/
def ex_ok (o : Int) (cd vl w : Int → Int) (a B : Int) (P : Int → Int → dn → Prop) (f : dV → Int → Int → dR) : Prop := ∀ (i j : Int) (A : dn), P i j A → 0 ≤ i → ∀ (V : dV) (live : Int), ex_cx o cd vl w a B V → V a 22 0 = B + i → ∃ (V' : dV) (v : Int), f V a live = (V', v) ∧ ex_fr a V V' ∧ V' a 22 0 = B + j ∧ ex_rs live (V a 24 0) (A w) (V' a 24 0) v ∧ i < j
theorem q_bounded {x live : Int} : ∃ (V' : dV) (v : Int), f_X12_bounded V a x live = (V', v) ∧ ex_fr a V V' ∧ V' a 22 0 = V a 22 0 ∧ (live = 0 → V' a 24 0 = V a 24 0) ∧ (V a 24 0 ≠ 0 → V' a 24 0 ≠ 0) ∧ (live ≠ 0 → V a 24 0 = 0 → match d_bd x with | none => V' a 24 0 ≠ 0 | some y => V' a 24 0 = 0 ∧ v = y) := by
  unfold f_X12_bounded f_X12_bounded_20 f_X12_bounded_25
  simp only [bq]
  have r : ∀ W : dV, (if W a 24 0 = 0 then (W, x) else (W, 0)) = (W, if W a 24 0 = 0 then x else 0) := fun W => by split <;> rfl
  simp only [r]
  by_cases e : live = 0
  · rw [if_pos e]
    exact ⟨V, _, rfl, ex_fr_r, rfl, fun _ => rfl, fun h => h, fun h => absurd e h⟩
  · rw [if_neg e]
    have hb : ∀ W : dV, d_bd x = none → W = dv_u V a 24 0 1 → ∃ (V' : dV) (v : Int), (W, if W a 24 0 = 0 then x else 0) = (V', v) ∧ ex_fr a V V' ∧ V' a 22 0 = V a 22 0 ∧ (live = 0 → V' a 24 0 = V a 24 0) ∧ (V a 24 0 ≠ 0 → V' a 24 0 ≠ 0) ∧ (live ≠ 0 → V a 24 0 = 0 → match d_bd x with | none => V' a 24 0 ≠ 0 | some y => V' a 24 0 = 0 ∧ v = y) := by
      intro W hx hW
      subst hW
      refine ⟨_, _, rfl, ex_fr_24, u24_22, fun h => absurd h e, fun _ => by rw [u24]; decide, fun _ _ => ?_⟩
      rw [hx]
      show dv_u V a 24 0 1 a 24 0 ≠ 0
      rw [u24]; decide
    by_cases e1 : 0 < dv_lcmp x 1000000000
    · rw [if_pos e1]
      have := lcmp_gt.mp e1
      exact hb _ (by unfold d_bd; rw [if_pos (by omega)]) rfl
    · rw [if_neg e1]
      by_cases e2 : 0 ≤ dv_lcmp x (-1000000000)
      · rw [if_pos e2]
        have h1 := mt lcmp_gt.mpr e1
        have h2 := lcmp_ge.mp e2
        refine ⟨V, _, rfl, ex_fr_r, rfl, fun h => absurd h e, fun h => h, fun _ h0 => ?_⟩
        have hx : d_bd x = some x := by unfold d_bd; rw [if_neg (by omega)]
        rw [hx]
        exact ⟨h0, if_pos h0⟩
      · rw [if_neg e2]
        have := mt lcmp_ge.mpr e2
        exact hb _ (by unfold d_bd; rw [if_pos (by omega)]) rfl
end QER
section QEP
variable {a B o : Int} {cd vl w : Int → Int} {V V' V1 : dV}
theorem q_passes {c i : Int} (h : ex_cx o cd vl w a B V) (hi : 0 ≤ i) (hg : V a 22 0 = B + i) : f_X12_passes0 V a c = if cd i = c then (dv_u V a 22 0 (B + (i + 1)), 1) else (V, 0) := by
  unfold f_X12_passes0
  simp only [bq, bq2]
  rw [q_codeAt h hi hg]
  by_cases e : cd i = c
  · rw [if_pos e, if_neg (fun q => q e), hg, Int.add_assoc]
  · rw [if_neg e, if_pos e]
theorem q_pass1 {c i : Int} (h : ex_cx o cd vl w a B V) (hi : 0 ≤ i) (hg : V a 22 0 = B + i) (e : cd i = c) : f_X12_passes0 V a c = (dv_u V a 22 0 (B + (i + 1)), 1) := by
  rw [q_passes h hi hg, if_pos e]
theorem q_pass0 {c i : Int} (h : ex_cx o cd vl w a B V) (hi : 0 ≤ i) (hg : V a 22 0 = B + i) (e : cd i ≠ c) : f_X12_passes0 V a c = (V, 0) := by
  rw [q_passes h hi hg, if_neg e]
theorem er_part {d : Nat} (ih : ∀ d', d = d' + 1 → ex_ok o cd vl w a B (D_sum o cd vl d') (f_X12_sumOf d')) (ho : o = 0 ∨ o = 1) : ex_ok o cd vl w a B (D_part o cd vl d) (f_X12_partOf d) := by
  intro i j A hP hi V live hx hg
  rw [f_X12_partOf_d]
  unfold f_X12_partOf_B
  simp only [bq, bq2, q_sign]
  rw [show (100 : Int) + 91 = 191 from rfl, q_passes hx hi hg]
  -- a leaf
  have LF : D_leaf o cd vl i j A → cd i ≠ 191 → ∃ (V' : dV) (v : Int), (if (V, (0 : Int)).2 = 0 then dv_b2 (f_X12_codeAt V a (V a 22 0)) fun x5 _ => (if (dv_u V a 22 0 (V a 22 0 + 1)) a 25 0 = 0 then f_X12_partOf_94 d (dv_pre (fun _ _ _ => dv_z) f_X12_sumOf d) (dv_u V a 22 0 (V a 22 0 + 1)) x5 a live 0 else if x5 = 14 then f_X12_partOf_70 d (dv_pre (fun _ _ _ => dv_z) f_X12_sumOf d) (dv_u V a 22 0 (V a 22 0 + 1)) x5 a live else if x5 ≠ 20 then f_X12_partOf_94 d (dv_pre (fun _ _ _ => dv_z) f_X12_sumOf d) (dv_u V a 22 0 (V a 22 0 + 1)) x5 a live 0 else f_X12_partOf_70 d (dv_pre (fun _ _ _ => dv_z) f_X12_sumOf d) (dv_u V a 22 0 (V a 22 0 + 1)) x5 a live) else (V, 0)) = (V', v) ∧ ex_fr a V V' ∧ V' a 22 0 = B + j ∧ ex_rs live (V a 24 0) (A w) (V' a 24 0) v ∧ i < j := by
    intro hl _
    rw [if_pos rfl, q_codeAt hx hi hg]
    simp only [bq2]
    have hx1 : ex_cx o cd vl w a B (dv_u V a 22 0 (V a 22 0 + 1)) := ex_cx_f hx ex_fr_22
    have g1 : dv_u V a 22 0 (V a 22 0 + 1) a 22 0 = B + (i + 1) := by rw [u22, hg, Int.add_assoc]
    have b1 : dv_u V a 22 0 (V a 22 0 + 1) a 24 0 = V a 24 0 := u22_24
    have f1 : ex_fr a V (dv_u V a 22 0 (V a 22 0 + 1)) := ex_fr_22
    have o1 := hx1.2.2.1
    generalize dv_u V a 22 0 (V a 22 0 + 1) = W at hx1 g1 b1 f1 o1 ⊢
    -- what 94 gives, the place known
    have E94 : ∀ (U : dV) (k x : Int), ex_fr a V U → U a 22 0 = B + j → U a 24 0 = V a 24 0 → i < j → (∀ live, live ≠ 0 → U a 24 0 = 0 → f_X12_partOf_94 d (dv_pre (fun _ _ _ => dv_z) f_X12_sumOf d) U (cd i) a live k = (U, x)) → A w = some x → ∃ (V' : dV) (v : Int), f_X12_partOf_94 d (dv_pre (fun _ _ _ => dv_z) f_X12_sumOf d) U (cd i) a live k = (V', v) ∧ ex_fr a V V' ∧ V' a 22 0 = B + j ∧ ex_rs live (V a 24 0) (A w) (V' a 24 0) v ∧ i < j := by
      intro U k x hf h22 h24 hij hv hA
      by_cases e : live = 0
      · refine ⟨U, 0, ?_, hf, h22, by unfold ex_rs; rw [if_pos e, h24], hij⟩
        unfold f_X12_partOf_94
        rw [if_pos e]
      · by_cases e1 : U a 24 0 = 0
        · refine ⟨U, x, hv live e e1, hf, h22, ?_, hij⟩
          unfold ex_rs
          rw [if_neg e, if_neg (by rw [← h24, e1]; decide), hA]
          exact ⟨e1, rfl⟩
        · refine ⟨U, 0, ?_, hf, h22, ?_, hij⟩
          · unfold f_X12_partOf_94
            simp only [bq]
            rw [if_neg e, if_neg e1]
          · unfold ex_rs
            rw [if_neg e, if_pos (by rw [← h24]; exact e1)]
            exact e1
    rcases hl with ⟨h50, hr, rfl, rfl⟩ | ⟨rfl, hr, rfl, rfl⟩ | ⟨rfl, hc, ⟨h50, hv0, hv8⟩, rfl, rfl⟩ | ⟨rfl, hr, rfl, rfl⟩
    · -- a number
      have r : (if W a 25 0 = 0 then f_X12_partOf_94 d (dv_pre (fun _ _ _ => dv_z) f_X12_sumOf d) W (cd i) a live 0 else if cd i = 14 then f_X12_partOf_70 d (dv_pre (fun _ _ _ => dv_z) f_X12_sumOf d) W (cd i) a live else if cd i ≠ 20 then f_X12_partOf_94 d (dv_pre (fun _ _ _ => dv_z) f_X12_sumOf d) W (cd i) a live 0 else f_X12_partOf_70 d (dv_pre (fun _ _ _ => dv_z) f_X12_sumOf d) W (cd i) a live) = f_X12_partOf_94 d (dv_pre (fun _ _ _ => dv_z) f_X12_sumOf d) W (cd i) a live 0 := by
        rw [if_neg (show ¬ cd i = 14 by omega), if_pos (show cd i ≠ 20 by omega)]
        split <;> rfl
      rw [r]
      refine E94 W 0 (vl i) f1 g1 b1 (by omega) (fun live e e1 => ?_) rfl
      unfold f_X12_partOf_94
      simp only [bq]
      rw [if_neg e, if_pos e1, if_neg (fun q => q h50), g1, hx1.2.1 i hi]
      congr 2
      omega
    · -- a word of a law
      rw [if_pos o1]
      refine E94 W 0 (w (d_lw (cd i))) f1 g1 b1 (by omega) (fun live e e1 => ?_) rfl
      unfold f_X12_partOf_94
      simp only [bq]
      rw [if_neg e, if_pos e1, if_pos (by omega), if_pos o1, hx1.2.2.2.1 rfl (cd i) hr.1 hr.2]
    · -- pile, laid
      have r : (if W a 25 0 = 0 then f_X12_partOf_94 d (dv_pre (fun _ _ _ => dv_z) f_X12_sumOf d) W (cd i) a live 0 else if cd i = 14 then f_X12_partOf_70 d (dv_pre (fun _ _ _ => dv_z) f_X12_sumOf d) W (cd i) a live else if cd i ≠ 20 then f_X12_partOf_94 d (dv_pre (fun _ _ _ => dv_z) f_X12_sumOf d) W (cd i) a live 0 else f_X12_partOf_70 d (dv_pre (fun _ _ _ => dv_z) f_X12_sumOf d) W (cd i) a live) = f_X12_partOf_70 d (dv_pre (fun _ _ _ => dv_z) f_X12_sumOf d) W (cd i) a live := by
        rw [if_neg (by rw [o1]; decide)]
        rcases hc with hc | hc
        · rw [if_pos hc]
        · rw [if_neg (by omega), if_neg (fun q => q hc)]
      rw [r]
      unfold f_X12_partOf_70
      simp only [bq]
      have hx2 : ex_cx 1 cd vl w a B (dv_u W a 22 0 (W a 22 0 + 1)) := ex_cx_f hx1 ex_fr_22
      have g2 : dv_u W a 22 0 (W a 22 0 + 1) a 22 0 = B + (i + 2) := by rw [u22, g1]; omega
      have b2 : dv_u W a 22 0 (W a 22 0 + 1) a 24 0 = V a 24 0 := by rw [u22_24, b1]
      have f2 : ex_fr a V (dv_u W a 22 0 (W a 22 0 + 1)) := ex_fr_t f1 ex_fr_22
      have hvl : W a 2 (2880 + W a 22 0) = vl (i + 1) := by rw [g1, hx1.2.1 (i + 1) (by omega)]
      rw [hvl]
      generalize dv_u W a 22 0 (W a 22 0 + 1) = U at hx2 g2 b2 f2 ⊢
      refine E94 U (vl (i + 1)) _ f2 g2 b2 (by omega) (fun live e e1 => ?_) rfl
      unfold f_X12_partOf_94
      simp only [bq, bq2]
      obtain ⟨w1, w2, -⟩ := hx2.2.2.2.2 (by decide) U ex_fr_r
      rw [if_neg e, if_pos e1, if_pos (by omega), if_neg (by rw [hx2.2.2.1]; decide)]
      rcases hc with hc | hc
      · rw [hc, w1 _ hv0 hv8, if_pos rfl]
      · rw [hc, w2 _ hv0 hv8, if_neg (by decide)]
    · -- another word of orders
      have r : (if W a 25 0 = 0 then f_X12_partOf_94 d (dv_pre (fun _ _ _ => dv_z) f_X12_sumOf d) W (cd i) a live 0 else if cd i = 14 then f_X12_partOf_70 d (dv_pre (fun _ _ _ => dv_z) f_X12_sumOf d) W (cd i) a live else if cd i ≠ 20 then f_X12_partOf_94 d (dv_pre (fun _ _ _ => dv_z) f_X12_sumOf d) W (cd i) a live 0 else f_X12_partOf_70 d (dv_pre (fun _ _ _ => dv_z) f_X12_sumOf d) W (cd i) a live) = f_X12_partOf_94 d (dv_pre (fun _ _ _ => dv_z) f_X12_sumOf d) W (cd i) a live 0 := by
        rw [if_neg (show ¬ cd i = 14 by omega), if_pos (show cd i ≠ 20 by omega)]
        split <;> rfl
      rw [r]
      refine E94 W 0 (w (cd i - 15)) f1 g1 b1 (by omega) (fun live e e1 => ?_) rfl
      unfold f_X12_partOf_94
      simp only [bq, bq2]
      obtain ⟨-, -, w3⟩ := hx1.2.2.2.2 (by decide) W ex_fr_r
      rw [if_neg e, if_pos e1, if_pos (by omega), if_neg (by rw [o1]; decide), w3 (cd i) 0 hr.1 hr.2]
  by_cases e191 : cd i = 191
  · -- a bracket
    cases d with
    | zero =>
      exfalso
      rcases hP with ⟨h, -⟩ | ⟨-, h, -⟩ | ⟨-, h, -⟩ | ⟨-, h, -⟩ <;> omega
    | succ d' =>
      rcases hP with hl | ⟨-, hs, hcl⟩
      · exfalso
        rcases hl with ⟨h, -⟩ | ⟨-, h, -⟩ | ⟨-, h, -⟩ | ⟨-, h, -⟩ <;> omega
      · rw [if_pos e191]
        simp only []
        rw [if_neg (by decide)]
        obtain ⟨V', v, e1, f1, g1, r1, l1⟩ := ih d' rfl (i + 1) (j - 1) A hs (by omega) (dv_u V a 22 0 (B + (i + 1))) live (ex_cx_f hx ex_fr_22) u22
        rw [show dv_pre (fun _ _ _ => dv_z) f_X12_sumOf (d' + 1) = f_X12_sumOf d' from rfl, e1]
        refine ⟨_, _, rfl, ex_fr_t ex_fr_22 (ex_fr_t f1 ex_fr_22), ?_, ?_, by omega⟩
        · rw [u22]
          show V' a 22 0 + 1 = B + j
          rw [g1]; omega
        · rw [u22_24]
          rw [u22_24] at r1
          exact r1
  · rw [if_neg e191]
    refine LF ?_ e191
    cases d with
    | zero => exact hP
    | succ d' => exact hP.resolve_right (fun q => e191 q.1)
end QEP
section QET
variable {a B o : Int} {cd vl w : Int → Int} {V V' V1 : dV}
theorem ex_rs_b {live b0 : Int} {x : Option Int} {b v : Int} (h : ex_rs live b0 x b v) (hl : live ≠ 0) (h0 : b0 ≠ 0) : b ≠ 0 := by
  unfold ex_rs at h
  rw [if_neg hl, if_pos h0] at h
  exact h
/-- an operator and what it joins, behind what they tell -/
theorem ex_rs_op {live b0 b1 b2 : Int} {c v y : Int} {A C : dn} (hb0 : live ≠ 0 → b0 = 0 → True) (h1 : ex_rs live b0 (A w) b1 v) (h2 : ex_rs live b1 (C w) b2 y) (b3 v3 : Int) (k0 : live = 0 → (b3 = 0 ↔ b2 = 0)) (kb : live ≠ 0 → b2 ≠ 0 → b3 ≠ 0) (k1 : live ≠ 0 → b2 = 0 → ∀ p q, A w = some p → C w = some q → v = p → y = q → match d_cal c p q with | none => b3 ≠ 0 | some r => b3 = 0 ∧ v3 = r) : ex_rs live b0 (d_op c A C w) b3 v3 := by
  unfold ex_rs at h1 h2 ⊢
  by_cases e : live = 0
  · rw [if_pos e] at h1 h2 ⊢
    exact (k0 e).trans (h2.trans h1)
  · rw [if_neg e] at h1 h2 ⊢
    by_cases e0 : b0 ≠ 0
    · rw [if_pos e0] at h1 ⊢
      rw [if_pos h1] at h2
      exact kb e h2
    · rw [if_neg e0] at h1 ⊢
      unfold d_op
      cases hA : A w with
      | none =>
        rw [hA] at h1
        rw [if_pos h1] at h2
        exact kb e h2
      | some p =>
        rw [hA] at h1
        obtain ⟨z1, z2⟩ := h1
        rw [if_neg (fun q => q z1)] at h2
        cases hC : C w with
        | none =>
          rw [hC] at h2
          exact kb e h2
        | some q =>
          rw [hC] at h2
          have := k1 e h2.1 p q hA hC z2 h2.2
          exact this
theorem er_tstep {d : Nat} {P : Int → Int → dn → Prop} {rc : dV → Int → Int → dR} (hP : ex_ok o cd vl w a B P rc) (hin : ∀ i j A, P i j A → d_in A) (hw : ∀ k, -2147483648 ≤ w k ∧ w k ≤ 2147483647) {i m live b0 v : Int} {A C : dn} (hA : d_in A) (hi : 0 ≤ i) (hx : ex_cx o cd vl w a B V) (hg : V a 22 0 = B + i) (hc : d_mul (cd i)) (hC : P (i + 1) m C) (hr : ex_rs live b0 (A w) (V a 24 0) v) : ∃ (V' : dV) (v' : Int), f_X12_termOf_54 d rc V a live v = Sum.inl (V', a, live, v') ∧ ex_fr a V V' ∧ V' a 22 0 = B + m ∧ ex_rs live b0 (d_op (cd i) A C w) (V' a 24 0) v' ∧ i < m := by
  unfold f_X12_termOf_54
  simp only [bq, bq2, q_sign]
  rw [q_codeAt hx hi hg]
  simp only []
  obtain ⟨V1, y, e1, f1, g1, r1, l1⟩ := hP (i + 1) m C hC (by omega) (dv_u V a 22 0 (V a 22 0 + 1)) live (ex_cx_f hx ex_fr_22) (by rw [u22, hg, Int.add_assoc])
  rw [u22_24] at r1
  rw [e1]
  simp only []
  have f1' := ex_fr_t ex_fr_22 f1
  -- the last step
  have L : ∀ (U : dV) (z : Int), ex_fr a V U → U a 22 0 = B + m → (live = 0 → (U a 24 0 = 0 ↔ V1 a 24 0 = 0)) → (live ≠ 0 → V1 a 24 0 ≠ 0 → U a 24 0 ≠ 0) → (live ≠ 0 → V1 a 24 0 = 0 → (z = y ∧ U a 24 0 = 0 ∧ (cd i = 142 ∨ y ≠ 0)) ∨ (y = 0 ∧ cd i ≠ 142 ∧ U a 24 0 ≠ 0)) → ∃ (V' : dV) (v' : Int), f_X12_termOf_121 d rc U (cd i) a live v z = Sum.inl (V', a, live, v') ∧ ex_fr a V V' ∧ V' a 22 0 = B + m ∧ ex_rs live b0 (d_op (cd i) A C w) (V' a 24 0) v' ∧ i < m := by
    intro U z fU gU b0' b1' b2'
    have BD : ∀ x : Int, (live ≠ 0 → V1 a 24 0 = 0 → ∀ p q, A w = some p → C w = some q → v = p → y = q → (z = y ∧ U a 24 0 = 0 ∧ (cd i = 142 ∨ y ≠ 0)) → d_cal (cd i) p q = d_bd x) → ∃ (V' : dV) (v' : Int), f_X12_termOf_160 d rc U a live x = Sum.inl (V', a, live, v') ∧ ex_fr a V V' ∧ V' a 22 0 = B + m ∧ ex_rs live b0 (d_op (cd i) A C w) (V' a 24 0) v' ∧ i < m := by
      intro x hxx
      obtain ⟨V2, v2, e2, f2, g2, k0, kb, k1⟩ := q_bounded (V := U) (a := a) (x := x) (live := live)
      unfold f_X12_termOf_160
      simp only [bq2]
      rw [e2]
      refine ⟨V2, v2, rfl, ex_fr_t fU f2, by rw [g2, gU], ?_, by omega⟩
      refine ex_rs_op (fun _ _ => trivial) hr r1 _ _ (fun e => by rw [k0 e]; exact b0' e) (fun e q => kb (b1' e q)) (fun e h0 p q hAp hCq hv hy => ?_)
      rcases b2' e h0 with h | ⟨hy0, hne, hU⟩
      · rw [hxx e h0 p q hAp hCq hv hy h]
        exact k1 e h.2.1
      · have : d_cal (cd i) p q = none := by
          unfold d_cal
          rcases hc with hc | hc | hc
          · exact absurd hc hne
          · rw [if_neg (by omega), if_neg (by omega), if_neg (by omega), if_pos (by omega)]
          · rw [if_neg (by omega), if_neg (by omega), if_neg (by omega), if_pos (by omega)]
        rw [this]
        exact kb hU
    unfold f_X12_termOf_121
    simp only [bq, bq2, q_sign]
    have bp : ∀ p, A w = some p → -2147483648 ≤ p ∧ p ≤ 2147483647 := fun p hp => hA w hw p hp
    have bqq : ∀ q, C w = some q → -2147483648 ≤ q ∧ q ≤ 2147483647 := fun q hq => hin _ _ _ hC w hw q hq
    rcases hc with hc | hc | hc
    · rw [if_neg (by omega)]
      refine BD _ fun e h0 p q hAp hCq hv hy h => ?_
      rw [hv, h.1, hy, dv_lmul_ok (bp p hAp) (bqq q hCq)]
      unfold d_cal
      rw [if_neg (by omega), if_neg (by omega), if_pos hc]
    · rw [if_pos (by omega), if_neg (by omega)]
      refine BD _ fun e h0 p q hAp hCq hv hy h => ?_
      rw [hv, h.1, hy, dv_ldiv_ok (bp p hAp) (bqq q hCq)]
      unfold d_cal
      rw [if_neg (by omega), if_neg (by omega), if_neg (by omega), if_neg (by omega), if_pos hc]
    · rw [if_pos (by omega), if_pos (by omega)]
      refine BD _ fun e h0 p q hAp hCq hv hy h => ?_
      rw [hv, h.1, hy, dv_lrem_ok (bp p hAp) (bqq q hCq)]
      unfold d_cal
      rw [if_neg (by omega), if_neg (by omega), if_neg (by omega), if_neg (by omega), if_neg (by omega)]
  unfold f_X12_termOf_110 f_X12_termOf_115
  simp only [bq]
  by_cases w1 : cd i = 142
  · rw [if_pos (by omega)]
    exact L V1 y f1' g1 (fun _ => Iff.rfl) (fun _ h => h) (fun _ h => Or.inl ⟨rfl, h, Or.inl w1⟩)
  · rw [if_neg (by omega)]
    by_cases w2 : dv_lcmp y 0 ≠ 0
    · rw [if_pos w2]
      exact L V1 y f1' g1 (fun _ => Iff.rfl) (fun _ h => h) (fun _ h => Or.inl ⟨rfl, h, Or.inr (fun q => w2 (lcmp_eq.mpr q))⟩)
    · rw [if_neg w2]
      have hy0 : y = 0 := lcmp_eq.mp (by omega)
      have K1 : (live = 0 → V1 a 24 0 ≠ 0) → ∃ (V' : dV) (v' : Int), f_X12_termOf_121 d rc (dv_u V1 a 24 0 1) (cd i) a live v 1 = Sum.inl (V', a, live, v') ∧ ex_fr a V V' ∧ V' a 22 0 = B + m ∧ ex_rs live b0 (d_op (cd i) A C w) (V' a 24 0) v' ∧ i < m := by
        intro h8
        exact L (dv_u V1 a 24 0 1) 1 (ex_fr_t f1' ex_fr_24) (by rw [u24_22, g1]) (fun e => by rw [u24]; exact ⟨fun q => absurd q (by decide), fun q => absurd q (h8 e)⟩) (fun _ _ => by rw [u24]; decide) (fun _ _ => Or.inr ⟨hy0, w1, by rw [u24]; decide⟩)
      by_cases w3 : V1 a 24 0 ≠ 0
      · rw [if_pos w3]
        exact K1 (fun _ => w3)
      · rw [if_neg w3]
        by_cases w4 : live = 0
        · rw [if_pos w4]
          exact L (dv_u V1 a 24 0 0) 1 (ex_fr_t f1' ex_fr_24) (by rw [u24_22, g1]) (fun _ => by rw [u24]; exact ⟨fun _ => by omega, fun _ => rfl⟩) (fun e => absurd w4 e) (fun e => absurd w4 e)
        · rw [if_neg w4]
          exact K1 (fun e => absurd e w4)
theorem er_tch {d : Nat} {P : Int → Int → dn → Prop} {rc : dV → Int → Int → dR} (hP : ex_ok o cd vl w a B P rc) (hin : ∀ i j A, P i j A → d_in A) (hw : ∀ k, -2147483648 ≤ w k ∧ w k ≤ 2147483647) {n : Nat} : ∀ {i j live b0 v : Int} {A R : dn} {V : dV}, d_ch d_mul cd P d_op n i A j R → d_in A → 0 ≤ i → ex_cx o cd vl w a B V → V a 22 0 = B + i → ex_rs live b0 (A w) (V a 24 0) v → ∃ (V' : dV) (v' : Int), dv_lp (f_X12_termOf_6b d rc) (V, a, live, v) = (V', v') ∧ ex_fr a V V' ∧ V' a 22 0 = B + j ∧ ex_rs live b0 (R w) (V' a 24 0) v' ∧ i ≤ j := by
  induction n with
  | zero =>
    rintro i j live b0 v A R V ⟨rfl, rfl, hn⟩ hA hi hx hg hr
    refine ⟨V, v, dv_lp_e ?_, ex_fr_r, hg, hr, by omega⟩
    simp only [f_X12_termOf_6e, f_X12_termOf_6c, bq, bq2, q_sign]
    rw [q_codeAt hx hi hg]
    simp only []
    unfold d_mul at hn
    rw [if_neg (by omega), if_neg (by omega), if_pos (by omega)]
  | succ n ih =>
    rintro i j live b0 v A R V ⟨hc, m, C, hC, hch⟩ hA hi hx hg hr
    obtain ⟨V1, v1, e1, f1, g1, r1, l1⟩ := er_tstep (d := d) hP hin hw hA hi hx hg hc hC hr
    have hs : f_X12_termOf_6b d rc (V, a, live, v) = Sum.inl (V1, a, live, v1) := by
      simp only [f_X12_termOf_6e, f_X12_termOf_6c, bq, bq2, q_sign]
      rw [q_codeAt hx hi hg, e1]
      simp only []
      rcases hc with hc | hc | hc
      · rw [if_pos (by omega)]
      · rw [if_neg (by omega), if_pos (by omega)]
      · rw [if_neg (by omega), if_neg (by omega), if_neg (by omega)]
    rw [dv_lp_s hs]
    obtain ⟨V2, v2, e2, f2, g2, r2, l2⟩ := ih hch d_op_in (by omega) (ex_cx_f hx f1) g1 r1
    exact ⟨V2, v2, e2, ex_fr_t f1 f2, g2, r2, by omega⟩
theorem er_term {d : Nat} (hP : ex_ok o cd vl w a B (D_part o cd vl d) (f_X12_partOf d)) (hw : ∀ k, -2147483648 ≤ w k ∧ w k ≤ 2147483647) : ex_ok o cd vl w a B (D_termF cd (D_part o cd vl d)) (f_X12_termOf d) := by
  rintro i j R ⟨m, A, n, hA, hch⟩ hi V live hx hg
  obtain ⟨V1, v1, e1, f1, g1, r1, l1⟩ := hP i m A hA hi V live hx hg
  obtain ⟨V2, v2, e2, f2, g2, r2, l2⟩ := er_tch (d := d) hP (fun _ _ _ => D_part_in) hw hch (D_part_in hA) (by omega) (ex_cx_f hx f1) g1 r1
  refine ⟨V2, v2, ?_, ex_fr_t f1 f2, g2, r2, by omega⟩
  rw [f_X12_termOf_d]
  unfold f_X12_termOf_B
  simp only [bq2]
  rw [e1]
  exact e2
theorem er_sstep {d : Nat} {P : Int → Int → dn → Prop} {rc : dV → Int → Int → dR} (hP : ex_ok o cd vl w a B P rc) (hin : ∀ i j A, P i j A → d_in A) (hw : ∀ k, -2147483648 ≤ w k ∧ w k ≤ 2147483647) {i m live b0 v : Int} {A C : dn} (hA : d_in A) (hi : 0 ≤ i) (hx : ex_cx o cd vl w a B V) (hg : V a 22 0 = B + i) (hc : d_add (cd i)) (hC : P (i + 1) m C) (hr : ex_rs live b0 (A w) (V a 24 0) v) : ∃ (V' : dV) (v' : Int), f_X12_sumOf_38 d rc V a live v = Sum.inl (V', a, live, v') ∧ ex_fr a V V' ∧ V' a 22 0 = B + m ∧ ex_rs live b0 (d_op (cd i) A C w) (V' a 24 0) v' ∧ i < m := by
  obtain ⟨V1, y, e1, f1, g1, r1, l1⟩ := hP (i + 1) m C hC (by omega) (dv_u V a 22 0 (V a 22 0 + 1)) live (ex_cx_f hx ex_fr_22) (by rw [u22, hg, Int.add_assoc])
  rw [u22_24] at r1
  have f1' := ex_fr_t ex_fr_22 f1
  have bp : ∀ p, A w = some p → lb p := fun p hp => by have := hA w hw p hp; unfold lb; omega
  have bqq : ∀ q, C w = some q → lb q := fun q hq => by have := hin _ _ _ hC w hw q hq; unfold lb; omega
  have BD : ∀ x : Int, (live ≠ 0 → V1 a 24 0 = 0 → ∀ p q, A w = some p → C w = some q → v = p → y = q → d_cal (cd i) p q = d_bd x) → ∃ (V' : dV) (v' : Int), f_X12_sumOf_95 d rc V1 a live x = Sum.inl (V', a, live, v') ∧ ex_fr a V V' ∧ V' a 22 0 = B + m ∧ ex_rs live b0 (d_op (cd i) A C w) (V' a 24 0) v' ∧ i < m := by
    intro x hxx
    obtain ⟨V2, v2, e2, f2, g2, k0, kb, k1⟩ := q_bounded (V := V1) (a := a) (x := x) (live := live)
    unfold f_X12_sumOf_95
    simp only [bq2]
    rw [e2]
    refine ⟨V2, v2, rfl, ex_fr_t f1' f2, by rw [g2, g1], ?_, by omega⟩
    refine ex_rs_op (fun _ _ => trivial) hr r1 _ _ (fun e => by rw [k0 e]) (fun e q => kb q) (fun e h0 p q hAp hCq hv hy => ?_)
    rw [hxx e h0 p q hAp hCq hv hy]
    exact k1 e h0
  have S59 : ∀ s : Int, f_X12_sumOf_59 d rc V a live v s = if s = 0 then f_X12_sumOf_95 d rc V1 a live (dv_lsub v y) else f_X12_sumOf_95 d rc V1 a live (dv_ladd v y) := by
    intro s
    unfold f_X12_sumOf_59
    simp only [bq, bq2]
    rw [e1]
  unfold f_X12_sumOf_38
  simp only [bq, bq2, q_sign]
  rw [q_codeAt hx hi hg]
  rcases hc with hc | hc
  · rw [if_neg (show ¬ (cd i, ()).1 ≠ 100 + 43 from fun q => q hc), S59, if_neg (by decide)]
    refine BD _ fun e h0 p q hAp hCq hv hy => ?_
    rw [hv, hy, dv_ladd_ok (bp p hAp) (bqq q hCq)]
    unfold d_cal
    rw [if_pos hc]
  · rw [if_pos (show (cd i, ()).1 ≠ 100 + 43 from fun q => by have q1 : cd i = 100 + 43 := q; omega), S59, if_pos rfl]
    refine BD _ fun e h0 p q hAp hCq hv hy => ?_
    rw [hv, hy, dv_lsub_ok (bp p hAp) (bqq q hCq)]
    unfold d_cal
    rw [if_neg (by omega), if_pos hc]
theorem er_sch {d : Nat} {P : Int → Int → dn → Prop} {rc : dV → Int → Int → dR} (hP : ex_ok o cd vl w a B P rc) (hin : ∀ i j A, P i j A → d_in A) (hw : ∀ k, -2147483648 ≤ w k ∧ w k ≤ 2147483647) {n : Nat} : ∀ {i j live b0 v : Int} {A R : dn} {V : dV}, d_ch d_add cd P d_op n i A j R → d_in A → 0 ≤ i → ex_cx o cd vl w a B V → V a 22 0 = B + i → ex_rs live b0 (A w) (V a 24 0) v → ∃ (V' : dV) (v' : Int), dv_lp (f_X12_sumOf_6b d rc) (V, a, live, v) = (V', v') ∧ ex_fr a V V' ∧ V' a 22 0 = B + j ∧ ex_rs live b0 (R w) (V' a 24 0) v' ∧ i ≤ j := by
  induction n with
  | zero =>
    rintro i j live b0 v A R V ⟨rfl, rfl, hn⟩ hA hi hx hg hr
    refine ⟨V, v, dv_lp_e ?_, ex_fr_r, hg, hr, by omega⟩
    simp only [f_X12_sumOf_6e, f_X12_sumOf_6c, bq, bq2, q_sign]
    rw [q_codeAt hx hi hg]
    simp only []
    unfold d_add at hn
    rw [if_neg (by omega), if_pos (by omega)]
  | succ n ih =>
    rintro i j live b0 v A R V ⟨hc, m, C, hC, hch⟩ hA hi hx hg hr
    obtain ⟨V1, v1, e1, f1, g1, r1, l1⟩ := er_sstep (d := d) hP hin hw hA hi hx hg hc hC hr
    have hs : f_X12_sumOf_6b d rc (V, a, live, v) = Sum.inl (V1, a, live, v1) := by
      simp only [f_X12_sumOf_6e, f_X12_sumOf_6c, bq, bq2, q_sign]
      rw [q_codeAt hx hi hg, e1]
      simp only []
      rcases hc with hc | hc
      · rw [if_pos (by omega)]
      · rw [if_neg (by omega), if_neg (by omega)]
    rw [dv_lp_s hs]
    obtain ⟨V2, v2, e2, f2, g2, r2, l2⟩ := ih hch d_op_in (by omega) (ex_cx_f hx f1) g1 r1
    exact ⟨V2, v2, e2, ex_fr_t f1 f2, g2, r2, by omega⟩
theorem er_sumd {d : Nat} (hP : ex_ok o cd vl w a B (D_part o cd vl d) (f_X12_partOf d)) (hw : ∀ k, -2147483648 ≤ w k ∧ w k ≤ 2147483647) : ex_ok o cd vl w a B (D_sum o cd vl d) (f_X12_sumOf d) := by
  have hT := er_term hP hw
  rintro i j R ⟨m, A, n, hA, hch⟩ hi V live hx hg
  obtain ⟨V1, v1, e1, f1, g1, r1, l1⟩ := hT i m A hA hi V live hx hg
  obtain ⟨V2, v2, e2, f2, g2, r2, l2⟩ := er_sch (d := d) hT (fun _ _ _ => D_termF_in (fun _ _ _ => D_part_in)) hw hch (D_termF_in (fun _ _ _ => D_part_in) hA) (by omega) (ex_cx_f hx f1) g1 r1
  refine ⟨V2, v2, ?_, ex_fr_t f1 f2, g2, r2, by omega⟩
  rw [f_X12_sumOf_d]
  unfold f_X12_sumOf_B
  simp only [bq2]
  rw [e1]
  exact e2
/-- the reference's sums tell what the SUM says -/
theorem er_sum (ho : o = 0 ∨ o = 1) (hw : ∀ k, -2147483648 ≤ w k ∧ w k ≤ 2147483647) (d : Nat) : ex_ok o cd vl w a B (D_sum o cd vl d) (f_X12_sumOf d) := by
  induction d with
  | zero => exact er_sumd (er_part (fun d' h => absurd h (by omega)) ho) hw
  | succ d ih => exact er_sumd (er_part (fun d' h => by cases h; exact ih) ho) hw
end QET
section QETT
variable {a B o : Int} {cd vl w : Int → Int} {V V' V1 : dV}
/-- a TEST says 0 or 1 -/
def d_01 (A : dn) : Prop := ∀ (w : Int → Int) (x : Int), A w = some x → x = 0 ∨ x = 1
theorem d_cmp_01 {c : Int} {A C : dn} : d_01 (d_cmp c A C) := by
  intro w x h
  unfold d_cmp at h
  split at h
  · cases h
  · split at h
    · cases h
    · cases h
      unfold d_rel
      split
      · split <;> omega
      · split
        · split <;> omega
        · split <;> omega
theorem d_not_01 {A : dn} (hA : d_01 A) : d_01 (d_not A) := by
  intro w x h
  unfold d_not at h
  split at h
  · cases h
  · rename_i y hy
    cases h
    rcases hA w y hy with rfl | rfl <;> omega
theorem d_nots_01 {n : Nat} {A : dn} (hA : d_01 A) : d_01 (d_nots n A) := by
  unfold d_nots
  split
  · exact hA
  · exact d_not_01 hA
theorem d_and_01 {A C : dn} (hA : d_01 A) (hC : d_01 C) : d_01 (d_and A C) := by
  intro w x h
  unfold d_and at h
  split at h
  · cases h
  · split at h
    · cases h; omega
    · exact hC w x h
theorem d_or_01 {A C : dn} (hA : d_01 A) (hC : d_01 C) : d_01 (d_or A C) := by
  intro w x h
  unfold d_or at h
  split at h
  · cases h
  · rename_i y hy
    split at h
    · exact hC w x h
    · cases h; exact hA w _ hy
theorem d_ch_01 {isop : Int → Prop} {El : Int → Int → dn → Prop} {op : Int → dn → dn → dn} (hE : ∀ i j A, El i j A → d_01 A) (ho : ∀ c A C, d_01 A → d_01 C → d_01 (op c A C)) {n : Nat} : ∀ {i : Int} {A : dn} {j : Int} {R : dn}, d_01 A → d_ch isop cd El op n i A j R → d_01 R := by
  induction n with
  | zero => rintro i A j R hA ⟨-, rfl, -⟩; exact hA
  | succ n ih => rintro i A j R hA ⟨-, m, C, hC, h⟩; exact ih (ho _ _ _ hA (hE _ _ _ hC)) h
theorem D_plainF_01 {P : Int → Int → dn → Prop} (hP : ∀ i j A, P i j A → d_01 A) {i j : Int} {A : dn} (h : D_plainF cd P i j A) : d_01 A := by
  obtain ⟨n, C, -, -, hC, rfl⟩ := h
  exact d_nots_01 (hP _ _ _ hC)
theorem D_bothF_01 {P : Int → Int → dn → Prop} (hP : ∀ i j A, P i j A → d_01 A) {i j : Int} {A : dn} (h : D_bothF cd P i j A) : d_01 A := by
  obtain ⟨m, C, n, h1, h2⟩ := h
  exact d_ch_01 (fun _ _ _ => D_plainF_01 hP) (fun _ _ _ => d_and_01) (D_plainF_01 hP h1) h2
theorem D_testF_01 {P : Int → Int → dn → Prop} (hP : ∀ i j A, P i j A → d_01 A) {i j : Int} {A : dn} (h : D_testF cd P i j A) : d_01 A := by
  obtain ⟨m, C, n, h1, h2⟩ := h
  exact d_ch_01 (fun _ _ _ => D_bothF_01 hP) (fun _ _ _ => d_or_01) (D_bothF_01 hP h1) h2
theorem D_comp_01 {d : Nat} {i j : Int} {A : dn} (h : D_comp o cd vl d i j A) : d_01 A := by
  obtain ⟨m, P, Q, -, -, -, rfl⟩ := h
  exact d_cmp_01
theorem D_pos_01 {d : Nat} : ∀ {i j : Int} {A : dn}, D_pos o cd vl d i j A → d_01 A := by
  induction d with
  | zero => intro i j A h; exact D_comp_01 h
  | succ d ih =>
    rintro i j A (h | ⟨-, h, -⟩)
    · exact D_comp_01 h
    · exact D_testF_01 (fun _ _ _ => ih) h
theorem D_sum_first {d : Nat} {i j : Int} {A : dn} (h : D_sum o cd vl d i j A) : cd i = 50 ∨ (8 ≤ cd i ∧ cd i ≤ 20) ∨ cd i = 191 := by
  obtain ⟨m, C, n, ⟨m1, C1, n1, h1, -⟩, -⟩ := h
  have hl : ∀ {i j : Int} {A : dn}, D_leaf o cd vl i j A → cd i = 50 ∨ (8 ≤ cd i ∧ cd i ≤ 20) ∨ cd i = 191 := by
    rintro i j A (⟨h, -⟩ | ⟨-, h, -⟩ | ⟨-, h, -⟩ | ⟨-, h, -⟩) <;> omega
  cases d with
  | zero => exact hl h1
  | succ d => exact h1.elim hl (fun q => Or.inr (Or.inr q.1))
theorem er_comp {d : Nat} (ho : o = 0 ∨ o = 1) (hw : ∀ k, -2147483648 ≤ w k ∧ w k ≤ 2147483647) : ex_ok o cd vl w a B (D_comp o cd vl d) (f_X12_positiveOf d) := by
  have hS := er_sum (a := a) (B := B) (cd := cd) (vl := vl) ho hw d
  rintro i j R ⟨m, P, Q, hP, hc, hQ, rfl⟩ hi V live hx hg
  have hf := D_sum_first hP
  rw [f_X12_positiveOf_d]
  unfold f_X12_positiveOf_B
  obtain ⟨V1, x, e1, f1, g1, r1, l1⟩ := hS i m P hP hi V live hx hg
  have hx1 := ex_cx_f hx f1
  obtain ⟨V2, y, e2, f2, g2, r2, l2⟩ := hS (m + 1) j Q hQ (by omega) (dv_u V1 a 22 0 (V1 a 22 0 + 1)) live (ex_cx_f hx1 ex_fr_22) (by rw [u22, g1, Int.add_assoc])
  rw [u22_24] at r2
  rw [dv_bn2 q_sign, dv_bn2 (q_pass0 hx hi hg (by omega)), if_pos rfl, dv_bn2 e1, bq, dv_bn2 (q_codeAt hx1 (by omega) g1), bq, bq, bq, dv_bn2 e2]
  have fr : ex_fr a V V2 := ex_fr_t f1 (ex_fr_t ex_fr_22 f2)
  -- what it tells at last
  have L : ∀ z : Int, (live ≠ 0 → V2 a 24 0 = 0 → z = d_rel (cd m) x y) → ∃ (V' : dV) (v : Int), (V2, z) = (V', v) ∧ ex_fr a V V' ∧ V' a 22 0 = B + j ∧ ex_rs live (V a 24 0) (d_cmp (cd m) P Q w) (V' a 24 0) v ∧ i < j := by
    intro z hz
    refine ⟨V2, z, rfl, fr, g2, ?_, by omega⟩
    unfold ex_rs at r1 r2 ⊢
    by_cases e : live = 0
    · rw [if_pos e] at r1 r2 ⊢
      exact r2.trans r1
    · rw [if_neg e] at r1 r2 ⊢
      by_cases e0 : V a 24 0 ≠ 0
      · rw [if_pos e0] at r1 ⊢
        rw [if_pos r1] at r2
        exact r2
      · rw [if_neg e0] at r1 ⊢
        unfold d_cmp
        cases hA : P w with
        | none =>
          rw [hA] at r1
          rw [if_pos r1] at r2
          exact r2
        | some p =>
          rw [hA] at r1
          obtain ⟨z1, z2⟩ := r1
          rw [if_neg (fun q => q z1)] at r2
          cases hC : Q w with
          | none =>
            rw [hC] at r2
            exact r2
          | some q =>
            rw [hC] at r2
            refine ⟨r2.1, ?_⟩
            rw [hz e r2.1, z2, r2.2]
  by_cases e : live = 0
  · rw [if_pos e]
    exact L 0 (fun h => absurd e h)
  · rw [if_neg e, bq]
    by_cases e1 : V2 a 24 0 ≠ 0
    · rw [if_pos e1]
      exact L 0 (fun _ h => absurd h e1)
    · rw [if_neg e1, dv_bn2 q_sign]
      rcases hc with hc | hc | hc
      · rw [if_neg (by omega), bq]
        by_cases k : 0 ≤ dv_lcmp x y
        · rw [if_pos k]
          have := lcmp_ge.mp k
          exact L 0 (fun _ _ => by unfold d_rel; rw [if_pos hc, if_neg (by omega)])
        · rw [if_neg k]
          have := mt lcmp_ge.mpr k
          exact L 1 (fun _ _ => by unfold d_rel; rw [if_pos hc, if_pos (by omega)])
      · rw [if_pos (by omega), dv_bn2 q_sign, if_neg (by omega), bq]
        by_cases k : dv_lcmp x y ≤ 0
        · rw [if_pos k]
          have := lcmp_le.mp k
          exact L 0 (fun _ _ => by unfold d_rel; rw [if_neg (by omega), if_pos hc, if_neg (by omega)])
        · rw [if_neg k]
          have := mt lcmp_le.mpr k
          exact L 1 (fun _ _ => by unfold d_rel; rw [if_neg (by omega), if_pos hc, if_pos (by omega)])
      · rw [if_pos (by omega), dv_bn2 q_sign, if_pos (by omega), bq]
        by_cases k : dv_lcmp x y ≠ 0
        · rw [if_pos k]
          exact L 0 (fun _ _ => by unfold d_rel; rw [if_neg (by omega), if_neg (by omega), if_neg (fun q => k (lcmp_eq.mpr q))])
        · rw [if_neg k]
          have k' : x = y := lcmp_eq.mp (by omega)
          exact L 1 (fun _ _ => by unfold d_rel; rw [if_neg (by omega), if_neg (by omega), if_pos k'])
theorem er_pos {d : Nat} (ih : ∀ d', d = d' + 1 → ex_ok o cd vl w a B (D_test o cd vl d') (f_X12_testOf d')) (ho : o = 0 ∨ o = 1) (hw : ∀ k, -2147483648 ≤ w k ∧ w k ≤ 2147483647) : ex_ok o cd vl w a B (D_pos o cd vl d) (f_X12_positiveOf d) := by
  intro i j A hP hi V live hx hg
  cases d with
  | zero => exact er_comp ho hw i j A hP hi V live hx hg
  | succ d' =>
    rcases hP with h | ⟨h1, h2, h3⟩
    · exact er_comp ho hw i j A h hi V live hx hg
    · rw [f_X12_positiveOf_d]
      unfold f_X12_positiveOf_B
      obtain ⟨V1, v, e1, f1, g1, r1, l1⟩ := ih d' rfl (i + 1) (j - 1) A h2 (by omega) (dv_u V a 22 0 (B + (i + 1))) live (ex_cx_f hx ex_fr_22) u22
      rw [dv_bn2 q_sign, dv_bn2 (q_pass1 hx hi hg (by omega)), if_neg (by decide), show dv_pre (fun _ _ _ => dv_z) f_X12_testOf (d' + 1) = f_X12_testOf d' from rfl, dv_bn2 e1, bq, bq, bq]
      refine ⟨_, _, rfl, ex_fr_t ex_fr_22 (ex_fr_t f1 ex_fr_22), ?_, ?_, by omega⟩
      · rw [u22]
        show V1 a 22 0 + 1 = B + j
        rw [g1]; omega
      · rw [u22_24]
        rw [u22_24] at r1
        exact r1
/-- a 1 turned n times -/
def d_tw (n : Nat) (t : Int) : Int := if n % 2 = 0 then t else 1 - t
theorem er_plain {d : Nat} (hP : ex_ok o cd vl w a B (D_pos o cd vl d) (f_X12_positiveOf d)) : ex_ok o cd vl w a B (D_plainF cd (D_pos o cd vl d)) (f_X12_plainOf d) := by
  have L : ∀ (n : Nat) (i j t live : Int) (C : dn) (V : dV), (t = 0 ∨ t = 1) → (∀ k : Nat, k < n → cd (i + k) = 7) → cd (i + n) ≠ 7 → D_pos o cd vl d (i + n) j C → 0 ≤ i → ex_cx o cd vl w a B V → V a 22 0 = B + i → ∃ (V' : dV) (v : Int), dv_lp (f_X12_plainOf_2b d (f_X12_positiveOf d)) (V, a, live, t) = (V', v) ∧ ex_fr a V V' ∧ V' a 22 0 = B + j ∧ ex_rs live (V a 24 0) (if d_tw n t = 0 then C w else d_not C w) (V' a 24 0) v ∧ i < j := by
    intro n
    induction n with
    | zero =>
      intro i j t live C V ht hk hn hC hi hx hg
      rw [Int.natCast_zero, Int.add_zero] at hn hC
      obtain ⟨V1, v, e1, f1, g1, r1, l1⟩ := hP i j C hC hi V live hx hg
      have h01 := D_pos_01 hC
      refine ⟨V1, if v = t then 0 else 1, dv_lp_e ?_, f1, g1, ?_, l1⟩
      · rw [f_X12_plainOf_2e]
        unfold f_X12_plainOf_2c
        rw [dv_bn2 (q_pass0 hx hi hg hn), if_pos rfl, dv_bn2 e1]
        split <;> rfl
      · have e9 : d_tw 0 t = t := rfl
        rw [e9]
        unfold ex_rs at r1 ⊢
        by_cases e : live = 0
        · rw [if_pos e] at r1 ⊢; exact r1
        · rw [if_neg e] at r1 ⊢
          by_cases e0 : V a 24 0 ≠ 0
          · rw [if_pos e0] at r1 ⊢; exact r1
          · rw [if_neg e0] at r1 ⊢
            unfold d_not
            cases hc : C w with
            | none =>
              rw [hc] at r1
              split <;> rename_i hh <;> (split at hh <;> first | exact r1 | cases hh)
            | some x =>
              rw [hc] at r1
              have hx01 := h01 w x hc
              rcases ht with rfl | rfl
              · rw [if_pos rfl]
                refine ⟨r1.1, ?_⟩
                rw [r1.2]
                split <;> omega
              · rw [if_neg (by decide)]
                refine ⟨r1.1, ?_⟩
                rw [r1.2]
                split <;> omega
    | succ n ih =>
      intro i j t live C V ht hk hn hC hi hx hg
      have h7 := hk 0 (by omega)
      rw [Int.natCast_zero, Int.add_zero] at h7
      have en : i + ((n + 1 : Nat) : Int) = (i + 1) + (n : Int) := by omega
      rw [en] at hn hC
      obtain ⟨V1, v, e1, f1, g1, r1, l1⟩ := ih (i + 1) j (1 - t) live C (dv_u V a 22 0 (B + (i + 1))) (by omega) (fun k hk1 => by have := hk (k + 1) (by omega); rw [show i + ((k + 1 : Nat) : Int) = (i + 1) + (k : Int) by omega] at this; exact this) hn hC (by omega) (ex_cx_f hx ex_fr_22) u22
      rw [u22_24] at r1
      refine ⟨V1, v, ?_, ex_fr_t ex_fr_22 f1, g1, ?_, by omega⟩
      · rw [← e1]
        refine dv_lp_s ?_
        rw [f_X12_plainOf_2e]
        unfold f_X12_plainOf_2c f_X12_plainOf_20
        rw [dv_bn2 (q_pass1 hx hi hg h7), if_neg (by decide)]
        rcases ht with rfl | rfl
        · rw [if_neg (by decide)]; rfl
        · rw [if_pos (by decide)]; rfl
      · have e9 : d_tw n (1 - t) = d_tw (n + 1) t := by
          unfold d_tw
          by_cases q : n % 2 = 0
          · rw [if_pos q, if_neg (by omega)]
          · rw [if_neg q, if_pos (by omega)]; omega
        rw [e9] at r1
        exact r1
  rintro i j A ⟨n, C, hk, hn, hC, rfl⟩ hi V live hx hg
  obtain ⟨V1, v, e1, f1, g1, r1, l1⟩ := L n i j 0 live C V (Or.inl rfl) hk hn hC hi hx hg
  refine ⟨V1, v, ?_, f1, g1, ?_, l1⟩
  · rw [f_X12_plainOf_d]
    exact e1
  · have e9 : d_nots n C w = if d_tw n 0 = 0 then C w else d_not C w := by
      unfold d_nots d_tw
      by_cases q : n % 2 = 0
      · rw [if_pos q, if_pos q, if_pos rfl]
      · rw [if_neg q, if_neg q, if_neg (by decide)]
    rw [e9]
    exact r1
end QETT
section QEBT
variable {a B o : Int} {cd vl w : Int → Int} {V V' V1 : dV}
theorem d_and_n {A C : dn} (h : A w = none) : d_and A C w = none := by unfold d_and; rw [h]
theorem d_and_v {A C : dn} {x : Int} (h : A w = some x) : d_and A C w = if x = 0 then some 0 else C w := by unfold d_and; rw [h]
theorem d_or_n {A C : dn} (h : A w = none) : d_or A C w = none := by unfold d_or; rw [h]
theorem d_or_v {A C : dn} {x : Int} (h : A w = some x) : d_or A C w = if x = 0 then C w else some x := by unfold d_or; rw [h]
theorem er_bch {d : Nat} {P : Int → Int → dn → Prop} {rc : dV → Int → Int → dR} (hP : ex_ok o cd vl w a B P rc) (h01 : ∀ i j A, P i j A → d_01 A) {n : Nat} : ∀ {i j live b0 v : Int} {A R : dn} {V : dV}, d_ch (fun c => c = 6) cd P (fun _ => d_and) n i A j R → d_01 A → 0 ≤ i → ex_cx o cd vl w a B V → V a 22 0 = B + i → ex_rs live b0 (A w) (V a 24 0) v → ∃ (V' : dV) (v' : Int), dv_lp (f_X12_bothOf_6b d rc) (V, a, live, v) = (V', v') ∧ ex_fr a V V' ∧ V' a 22 0 = B + j ∧ ex_rs live b0 (R w) (V' a 24 0) v' ∧ i ≤ j := by
  induction n with
  | zero =>
    rintro i j live b0 v A R V ⟨rfl, rfl, hn⟩ hA hi hx hg hr
    refine ⟨V, v, dv_lp_e ?_, ex_fr_r, hg, hr, by omega⟩
    rw [f_X12_bothOf_6e]
    unfold f_X12_bothOf_6c
    rw [dv_bn2 (q_pass0 hx hi hg hn), if_pos rfl]
  | succ n ih =>
    rintro i j live b0 v A R V ⟨hc, m, C, hC, hch⟩ hA hi hx hg hr
    have hc : cd i = 6 := hc
    have hC1 := h01 _ _ _ hC
    -- what is behind the and, asked live or not
    have K : ∀ lv : Int, ∃ (V1 : dV) (y : Int), rc (dv_u V a 22 0 (B + (i + 1))) a lv = (V1, y) ∧ ex_fr a V V1 ∧ V1 a 22 0 = B + m ∧ ex_rs lv (V a 24 0) (C w) (V1 a 24 0) y ∧ i < m := by
      intro lv
      obtain ⟨V1, y, e1, f1, g1, r1, l1⟩ := hP (i + 1) m C hC (by omega) (dv_u V a 22 0 (B + (i + 1))) lv (ex_cx_f hx ex_fr_22) u22
      rw [u22_24] at r1
      exact ⟨V1, y, e1, ex_fr_t ex_fr_22 f1, g1, r1, by omega⟩
    -- one step
    have S : ∃ (V1 : dV) (v1 : Int), f_X12_bothOf_6b d rc (V, a, live, v) = Sum.inl (V1, a, live, v1) ∧ ex_fr a V V1 ∧ V1 a 22 0 = B + m ∧ ex_rs live b0 (d_and A C w) (V1 a 24 0) v1 ∧ i < m := by
      have H29 : ∀ (lv y : Int) (V1 : dV), rc (dv_u V a 22 0 (B + (i + 1))) a lv = (V1, y) → f_X12_bothOf_29 d rc (dv_u V a 22 0 (B + (i + 1))) a live v lv = Sum.inl (V1, a, live, if v = 0 then 0 else if y = 0 then 0 else 1) := by
        intro lv y V1 e1
        unfold f_X12_bothOf_29 f_X12_bothOf_45 f_X12_bothOf_46
        rw [dv_bn2 e1]
        split
        · rfl
        · split <;> rfl
      rw [f_X12_bothOf_6e]
      unfold f_X12_bothOf_6c f_X12_bothOf_28
      rw [dv_bn2 (q_pass1 hx hi hg hc), if_neg (by decide)]
      unfold ex_rs at hr
      by_cases e : live = 0
      · obtain ⟨V1, y, e1, f1, g1, r1, l1⟩ := K 0
        rw [if_pos e] at hr
        rw [if_pos e, H29 0 y V1 e1]
        unfold ex_rs at r1
        rw [if_pos rfl] at r1
        exact ⟨V1, _, rfl, f1, g1, by unfold ex_rs; rw [if_pos e]; exact r1.trans hr, l1⟩
      · rw [if_neg e] at hr
        rw [if_neg e]
        by_cases q : v = 0
        · -- it can matter no more
          obtain ⟨V1, y, e1, f1, g1, r1, l1⟩ := K 0
          rw [if_pos q, H29 0 y V1 e1, if_pos q]
          refine ⟨V1, 0, rfl, f1, g1, ?_, l1⟩
          unfold ex_rs at r1 ⊢
          rw [if_pos rfl] at r1
          rw [if_neg e]
          by_cases e0 : b0 ≠ 0
          · rw [if_pos e0] at hr ⊢
            exact fun h => hr (r1.mp h)
          · rw [if_neg e0] at hr ⊢
            cases hAw : A w with
            | none => rw [hAw] at hr; rw [d_and_n hAw]; exact fun h => hr (r1.mp h)
            | some x =>
              rw [hAw] at hr
              have hv : V a 24 0 = 0 ∧ v = x := hr
              rw [d_and_v hAw, if_pos (by omega)]
              exact ⟨r1.mpr hv.1, rfl⟩
        · obtain ⟨V1, y, e1, f1, g1, r1, l1⟩ := K 1
          rw [if_neg q, H29 1 y V1 e1, if_neg q]
          refine ⟨V1, if y = 0 then 0 else 1, rfl, f1, g1, ?_, l1⟩
          unfold ex_rs at r1 ⊢
          rw [if_neg (by decide)] at r1
          rw [if_neg e]
          by_cases e0 : b0 ≠ 0
          · rw [if_pos e0] at hr ⊢
            rw [if_pos hr] at r1
            exact r1
          · rw [if_neg e0] at hr ⊢
            cases hAw : A w with
            | none =>
              rw [hAw] at hr
              have hr' : V a 24 0 ≠ 0 := hr
              rw [if_pos hr'] at r1
              rw [d_and_n hAw]
              exact r1
            | some x =>
              rw [hAw] at hr
              have hv : V a 24 0 = 0 ∧ v = x := hr
              rw [if_neg (fun k => k hv.1)] at r1
              rw [d_and_v hAw, if_neg (show ¬ x = 0 by omega)]
              cases hCw : C w with
              | none => rw [hCw] at r1; exact r1
              | some z =>
                rw [hCw] at r1
                have r2 : V1 a 24 0 = 0 ∧ y = z := r1
                refine ⟨r2.1, ?_⟩
                have := hC1 w z hCw
                show (if y = 0 then 0 else 1) = z
                split <;> omega
    obtain ⟨V1, v1, e1, f1, g1, r1, l1⟩ := S
    rw [dv_lp_s e1]
    obtain ⟨V2, v2, e2, f2, g2, r2, l2⟩ := ih hch (d_and_01 hA hC1) (by omega) (ex_cx_f hx f1) g1 r1
    exact ⟨V2, v2, e2, ex_fr_t f1 f2, g2, r2, by omega⟩
theorem er_both {d : Nat} (hP : ex_ok o cd vl w a B (D_pos o cd vl d) (f_X12_positiveOf d)) : ex_ok o cd vl w a B (D_bothF cd (D_pos o cd vl d)) (f_X12_bothOf d) := by
  have hT := er_plain hP
  have h01 : ∀ i j A, D_plainF cd (D_pos o cd vl d) i j A → d_01 A := fun _ _ _ => D_plainF_01 (fun _ _ _ => D_pos_01)
  rintro i j R ⟨m, A, n, hA, hch⟩ hi V live hx hg
  obtain ⟨V1, v1, e1, f1, g1, r1, l1⟩ := hT i m A hA hi V live hx hg
  obtain ⟨V2, v2, e2, f2, g2, r2, l2⟩ := er_bch (d := d) hT h01 hch (h01 _ _ _ hA) (by omega) (ex_cx_f hx f1) g1 r1
  refine ⟨V2, v2, ?_, ex_fr_t f1 f2, g2, r2, by omega⟩
  rw [f_X12_bothOf_d]
  unfold f_X12_bothOf_B
  simp only [bq2]
  rw [e1]
  exact e2
theorem er_och {d : Nat} {P : Int → Int → dn → Prop} {rc : dV → Int → Int → dR} (hP : ex_ok o cd vl w a B P rc) (h01 : ∀ i j A, P i j A → d_01 A) {n : Nat} : ∀ {i j live b0 v : Int} {A R : dn} {V : dV}, d_ch (fun c => c = 5) cd P (fun _ => d_or) n i A j R → d_01 A → 0 ≤ i → ex_cx o cd vl w a B V → V a 22 0 = B + i → ex_rs live b0 (A w) (V a 24 0) v → ∃ (V' : dV) (v' : Int), dv_lp (f_X12_testOf_6b d rc) (V, a, live, v) = (V', v') ∧ ex_fr a V V' ∧ V' a 22 0 = B + j ∧ ex_rs live b0 (R w) (V' a 24 0) v' ∧ i ≤ j := by
  induction n with
  | zero =>
    rintro i j live b0 v A R V ⟨rfl, rfl, hn⟩ hA hi hx hg hr
    refine ⟨V, v, dv_lp_e ?_, ex_fr_r, hg, hr, by omega⟩
    rw [f_X12_testOf_6e]
    unfold f_X12_testOf_6c
    rw [dv_bn2 (q_pass0 hx hi hg hn), if_pos rfl]
  | succ n ih =>
    rintro i j live b0 v A R V ⟨hc, m, C, hC, hch⟩ hA hi hx hg hr
    have hc : cd i = 5 := hc
    have hC1 := h01 _ _ _ hC
    have K : ∀ lv : Int, ∃ (V1 : dV) (y : Int), rc (dv_u V a 22 0 (B + (i + 1))) a lv = (V1, y) ∧ ex_fr a V V1 ∧ V1 a 22 0 = B + m ∧ ex_rs lv (V a 24 0) (C w) (V1 a 24 0) y ∧ i < m := by
      intro lv
      obtain ⟨V1, y, e1, f1, g1, r1, l1⟩ := hP (i + 1) m C hC (by omega) (dv_u V a 22 0 (B + (i + 1))) lv (ex_cx_f hx ex_fr_22) u22
      rw [u22_24] at r1
      exact ⟨V1, y, e1, ex_fr_t ex_fr_22 f1, g1, r1, by omega⟩
    have S : ∃ (V1 : dV) (v1 : Int), f_X12_testOf_6b d rc (V, a, live, v) = Sum.inl (V1, a, live, v1) ∧ ex_fr a V V1 ∧ V1 a 22 0 = B + m ∧ ex_rs live b0 (d_or A C w) (V1 a 24 0) v1 ∧ i < m := by
      have H29 : ∀ (lv y : Int) (V1 : dV), rc (dv_u V a 22 0 (B + (i + 1))) a lv = (V1, y) → f_X12_testOf_28 d rc (dv_u V a 22 0 (B + (i + 1))) a live v lv = Sum.inl (V1, a, live, if v ≠ 0 then 1 else if y = 0 then 0 else 1) := by
        intro lv y V1 e1
        unfold f_X12_testOf_28 f_X12_testOf_40 f_X12_testOf_45
        rw [dv_bn2 e1]
        split
        · rfl
        · split <;> rfl
      rw [f_X12_testOf_6e]
      unfold f_X12_testOf_6c f_X12_testOf_27
      rw [dv_bn2 (q_pass1 hx hi hg hc), if_neg (by decide)]
      unfold ex_rs at hr
      by_cases e : live = 0
      · obtain ⟨V1, y, e1, f1, g1, r1, l1⟩ := K 0
        rw [if_pos e] at hr
        rw [if_pos e, H29 0 y V1 e1]
        unfold ex_rs at r1
        rw [if_pos rfl] at r1
        exact ⟨V1, _, rfl, f1, g1, by unfold ex_rs; rw [if_pos e]; exact r1.trans hr, l1⟩
      · rw [if_neg e] at hr
        rw [if_neg e]
        by_cases q : v ≠ 0
        · obtain ⟨V1, y, e1, f1, g1, r1, l1⟩ := K 0
          rw [if_pos q, H29 0 y V1 e1, if_pos q]
          refine ⟨V1, 1, rfl, f1, g1, ?_, l1⟩
          unfold ex_rs at r1 ⊢
          rw [if_pos rfl] at r1
          rw [if_neg e]
          by_cases e0 : b0 ≠ 0
          · rw [if_pos e0] at hr ⊢
            exact fun h => hr (r1.mp h)
          · rw [if_neg e0] at hr ⊢
            cases hAw : A w with
            | none => rw [hAw] at hr; rw [d_or_n hAw]; exact fun h => hr (r1.mp h)
            | some x =>
              rw [hAw] at hr
              have hv : V a 24 0 = 0 ∧ v = x := hr
              rw [d_or_v hAw, if_neg (show ¬ x = 0 by omega)]
              refine ⟨r1.mpr hv.1, ?_⟩
              have := hA w x hAw
              omega
        · obtain ⟨V1, y, e1, f1, g1, r1, l1⟩ := K 1
          rw [if_neg q, H29 1 y V1 e1, if_neg q]
          refine ⟨V1, if y = 0 then 0 else 1, rfl, f1, g1, ?_, l1⟩
          unfold ex_rs at r1 ⊢
          rw [if_neg (by decide)] at r1
          rw [if_neg e]
          by_cases e0 : b0 ≠ 0
          · rw [if_pos e0] at hr ⊢
            rw [if_pos hr] at r1
            exact r1
          · rw [if_neg e0] at hr ⊢
            cases hAw : A w with
            | none =>
              rw [hAw] at hr
              have hr' : V a 24 0 ≠ 0 := hr
              rw [if_pos hr'] at r1
              rw [d_or_n hAw]
              exact r1
            | some x =>
              rw [hAw] at hr
              have hv : V a 24 0 = 0 ∧ v = x := hr
              rw [if_neg (fun k => k hv.1)] at r1
              rw [d_or_v hAw, if_pos (show x = 0 by omega)]
              cases hCw : C w with
              | none => rw [hCw] at r1; exact r1
              | some z =>
                rw [hCw] at r1
                have r2 : V1 a 24 0 = 0 ∧ y = z := r1
                refine ⟨r2.1, ?_⟩
                have := hC1 w z hCw
                show (if y = 0 then 0 else 1) = z
                split <;> omega
    obtain ⟨V1, v1, e1, f1, g1, r1, l1⟩ := S
    rw [dv_lp_s e1]
    obtain ⟨V2, v2, e2, f2, g2, r2, l2⟩ := ih hch (d_or_01 hA hC1) (by omega) (ex_cx_f hx f1) g1 r1
    exact ⟨V2, v2, e2, ex_fr_t f1 f2, g2, r2, by omega⟩
theorem er_testd {d : Nat} (hP : ex_ok o cd vl w a B (D_pos o cd vl d) (f_X12_positiveOf d)) : ex_ok o cd vl w a B (D_test o cd vl d) (f_X12_testOf d) := by
  have hT := er_both hP
  have h01 : ∀ i j A, D_bothF cd (D_pos o cd vl d) i j A → d_01 A := fun _ _ _ => D_bothF_01 (fun _ _ _ => D_pos_01)
  rintro i j R ⟨m, A, n, hA, hch⟩ hi V live hx hg
  obtain ⟨V1, v1, e1, f1, g1, r1, l1⟩ := hT i m A hA hi V live hx hg
  obtain ⟨V2, v2, e2, f2, g2, r2, l2⟩ := er_och (d := d) hT h01 hch (h01 _ _ _ hA) (by omega) (ex_cx_f hx f1) g1 r1
  refine ⟨V2, v2, ?_, ex_fr_t f1 f2, g2, r2, by omega⟩
  rw [f_X12_testOf_d]
  unfold f_X12_testOf_B
  simp only [bq2]
  rw [e1]
  exact e2
/-- the reference's tests tell what the TEST says -/
theorem er_test (ho : o = 0 ∨ o = 1) (hw : ∀ k, -2147483648 ≤ w k ∧ w k ≤ 2147483647) (d : Nat) : ex_ok o cd vl w a B (D_test o cd vl d) (f_X12_testOf d) := by
  induction d with
  | zero => exact er_testd (er_pos (fun d' h => absurd h (by omega)) ho hw)
  | succ d ih => exact er_testd (er_pos (fun d' h => by cases h; exact ih) ho hw)
end QEBT
end
section
section QKS
variable {V V' V1 : dV} {r x to t i : Int} {w : Int → Int}
/-- of the reckoner only the stack from t on and "broken" have changed -/
def kx_fr (r t : Int) (V V' : dV) : Prop := (∀ b j z, ¬ (b = r ∧ (j = 0 ∨ j = 3)) → V' b j z = V b j z) ∧ ∀ z, z < t → V' r 0 z = V r 0 z
theorem kx_r : kx_fr r t V V := ⟨fun _ _ _ _ => rfl, fun _ _ => rfl⟩
theorem kx_t (h : kx_fr r t V V') (h1 : kx_fr r t V' V1) : kx_fr r t V V1 := ⟨fun b j z k => (h1.1 b j z k).trans (h.1 b j z k), fun z hz => (h1.2 z hz).trans (h.2 z hz)⟩
theorem kx_m {t' : Int} (h : kx_fr r t' V V') (ht : t ≤ t') : kx_fr r t V V' := ⟨h.1, fun z hz => h.2 z (by omega)⟩
theorem kx_3 {y : Int} : kx_fr r t V (dv_u V r 3 0 y) := ⟨fun b j z k => by unfold dv_u; rw [if_neg (fun q => k ⟨q.1, Or.inr q.2.1⟩)], fun z _ => by unfold dv_u; rw [if_neg (fun q => absurd q.2.1 (by decide))]⟩
theorem kx_0 {z0 y : Int} (h : t ≤ z0) : kx_fr r t V (dv_u V r 0 z0 y) := ⟨fun b j z k => by unfold dv_u; rw [if_neg (fun q => k ⟨q.1, Or.inl q.2.1⟩)], fun z hz => by unfold dv_u; rw [if_neg (fun q => by have := q.2.2; omega)]⟩
/-- the reckoner r may reckon the codes p .. q of the text x: words w, t on its stack, h more needed -/
def kx_cx (X : Int → Int) (p q h : Int) (w : Int → Int) (V : dV) (r x to t : Int) : Prop := (∀ i, p ≤ i → i < q → V x 0 i = X i) ∧ (q ≤ V x 2 0 ∧ q ≤ to) ∧ (0 ≤ t ∧ t + h ≤ 62) ∧ V r 3 0 = 0 ∧ (∀ k, 0 ≤ k → k < 23 → V r 1 k = w k) ∧ x ≠ r
theorem kx_cx_f {X : Int → Int} {p q h p' h' t' : Int} (c : kx_cx X p q h w V r x to t) (f : kx_fr r t V V') (h3 : V' r 3 0 = 0) (hp : p ≤ p') (ht : 0 ≤ t' ∧ t' + h' ≤ 62) : kx_cx X p' q h' w V' r x to t' := by
  obtain ⟨h1, h2, -, -, h5, h6⟩ := c
  have k : ∀ j z, V' x j z = V x j z := fun j z => f.1 x j z (fun q => h6 q.1)
  refine ⟨fun i i0 i1 => ?_, ?_, ht, h3, fun n n0 n1 => ?_, h6⟩
  · rw [k]; exact h1 i (by omega) i1
  · rw [k]; exact h2
  · rw [f.1 r 1 n (fun q => q.2.elim (by decide) (by decide))]; exact h5 n n0 n1
theorem kx_cx_s {X : Int → Int} {p q h q' h' : Int} (c : kx_cx X p q h w V r x to t) (hq : q' ≤ q) (hh : h' ≤ h) : kx_cx X p q' h' w V r x to t := by
  obtain ⟨h1, h2, h3, h4⟩ := c
  exact ⟨fun i i0 i1 => h1 i i0 (by omega), by omega, by omega, h4⟩
/-- the codes p .. q push what A says, or end broken; h is as high as the stack goes -/
def K_seg (X : Int → Int) (p q : Int) (A : dn) (h : Int) : Prop := p < q ∧ 1 ≤ h ∧ ∀ (V : dV) (r x to t : Int) (w : Int → Int), kx_cx X p q h w V r x to t → (∀ k, -2147483648 ≤ w k ∧ w k ≤ 2147483647) → match A w with
  | some v => ∃ V' : dV, dv_lp f_X6_reckon_11b (V, r, x, to, t, p) = dv_lp f_X6_reckon_11b (V', r, x, to, t + 1, q) ∧ kx_fr r t V V' ∧ V' r 3 0 = 0 ∧ V' r 0 t = v
  | none => ∃ (V' : dV) (y : Int), dv_lp f_X6_reckon_11b (V, r, x, to, t, p) = (V', y) ∧ kx_fr r t V V' ∧ V' r 3 0 ≠ 0
/-- a push -/
theorem k_push {X : Int → Int} {p h : Int} (c : kx_cx X p (p + 1) h w V r x to t) (hh : 1 ≤ h) (hc : X p < 3000) (h23 : X p < 2023) : dv_lp f_X6_reckon_11b (V, r, x, to, t, p) = dv_lp f_X6_reckon_11b (dv_u (dv_u V r 3 0 0) r 0 t (if 2000 ≤ X p then w (X p - 2000) else X p), r, x, to, t + 1, p + 1) := by
  obtain ⟨h1, h2, h3, h4, h5, h6⟩ := c
  refine dv_lp_s ?_
  simp only [f_X6_reckon_11e, f_X6_reckon_11c, f_X6_reckon_121, f_X6_reckon_538, bq]
  rw [if_neg (by omega), if_neg (by omega), if_neg (fun q => q h4), h1 p (by omega) (by omega), if_neg (by omega), if_neg (by omega), if_pos (by omega)]
  by_cases e : 2000 ≤ X p
  · rw [if_pos (by omega), if_pos e]
    have : dv_u V r 3 0 0 r 1 (X p - 2000) = w (X p - 2000) := by
      unfold dv_u
      rw [if_neg (fun q => absurd q.2.1 (by decide))]
      exact h5 _ (by omega) (by omega)
    rw [this]
  · rw [if_neg (by omega), if_neg e]
theorem K_num {X : Int → Int} {p n : Int} (h : X p = n) (h1 : n < 2000) : K_seg X p (p + 1) (fun _ => some n) 1 := by
  refine ⟨by omega, by omega, fun V r x to t w c _ => ?_⟩
  refine ⟨_, k_push c (by omega) (by omega) (by omega), kx_t kx_3 (kx_0 (by omega)), ?_, ?_⟩
  · unfold dv_u; rw [if_neg (fun q => absurd q.2.1 (by decide)), if_pos ⟨rfl, rfl, rfl⟩]
  · unfold dv_u; rw [if_pos ⟨rfl, rfl, rfl⟩, if_neg (by omega), h]
theorem K_word {X : Int → Int} {p k : Int} (h : X p = 2000 + k) (h0 : 0 ≤ k) (h1 : k < 23) : K_seg X p (p + 1) (fun w => some (w k)) 1 := by
  refine ⟨by omega, by omega, fun V r x to t w c _ => ?_⟩
  refine ⟨_, k_push c (by omega) (by omega) (by omega), kx_t kx_3 (kx_0 (by omega)), ?_, ?_⟩
  · unfold dv_u; rw [if_neg (fun q => absurd q.2.1 (by decide)), if_pos ⟨rfl, rfl, rfl⟩]
  · unfold dv_u; rw [if_pos ⟨rfl, rfl, rfl⟩, if_pos (by omega), h]; congr 1; omega
/-- what stands broken ends -/
theorem k_brk {p : Int} (h : V r 3 0 ≠ 0) : ∃ y : Int, dv_lp f_X6_reckon_11b (V, r, x, to, t, p) = (V, y) := by
  refine ⟨V r 0 0, dv_lp_e ?_⟩
  simp only [f_X6_reckon_11e, f_X6_reckon_11c, bq]
  by_cases e : to ≤ p
  · rw [if_pos e]
  · rw [if_neg e]
    by_cases e1 : V x 2 0 ≤ p
    · rw [if_pos e1]
    · rw [if_neg e1, if_pos h]
/-- behind an operation: its value v stands at place z, or all is broken -/
theorem k_500 {T p v : Int} : f_X6_reckon_500 V T r x to p v = Sum.inl (dv_u (dv_u V r 3 0 (if d_bd v = none then 1 else 0)) r 0 (T - 1) v, r, x, to, T, p + 1) := by
  unfold f_X6_reckon_500 f_X6_reckon_519 f_X6_reckon_524 f_X6_reckon_538
  simp only [bq]
  by_cases e : 0 < dv_lcmp v 1000000000
  · have := lcmp_gt.mp e
    rw [if_pos e, if_pos (by unfold d_bd; rw [if_pos (by omega)])]
  · have h1 := mt lcmp_gt.mpr e
    rw [if_neg e]
    by_cases e1 : 0 ≤ dv_lcmp v (-1000000000)
    · have h2 := lcmp_ge.mp e1
      rw [if_pos e1, if_neg (by unfold d_bd; rw [if_neg (by omega)]; exact fun q => by cases q)]
    · have h2 := mt lcmp_ge.mpr e1
      rw [if_neg e1, if_pos (by unfold d_bd; rw [if_pos (by omega)])]
end QKS
section QKO
variable {V V' V1 : dV} {r x to t i : Int} {w : Int → Int}
def k_val (c a b : Int) : Int := if c = 3000 then a + b else if c = 3001 then a - b else if c = 3002 then a * b else if c = 3003 then (if b = 0 then 1000000001 else a.tdiv b) else if c = 3004 then (if b = 0 then 1000000001 else a.tmod b) else if c = 3005 then (if a < b then 1 else 0) else if c = 3006 then (if b < a then 1 else 0) else if a = b then 1 else 0
/-- as far as the operation, unbroken, with at least two on the stack -/
theorem k_to {T q c : Int} (h1 : q < to) (h2 : q < V x 2 0) (h3 : V r 3 0 = 0) (hc : V x 0 q = c) (c0 : 3000 ≤ c) (hT : 1 ≤ T) (hT2 : 2 ≤ T ∨ 3008 ≤ c) : f_X6_reckon_11b (V, r, x, to, T, q) = f_X6_reckon_156 V c r x to T q := by
  rw [f_X6_reckon_11e]
  unfold f_X6_reckon_11c
  rw [if_neg (by omega), bq, if_neg (by omega), bq, if_neg (fun k => k h3), bq, hc, if_pos c0, if_neg (by omega)]
  by_cases e : 2 ≤ T
  · rw [if_pos e]
  · rw [if_neg e, if_pos (by omega)]
theorem k_op {T q c a b : Int} (h1 : q < to) (h2 : q < V x 2 0) (h3 : V r 3 0 = 0) (hc : V x 0 q = c) (c0 : 3000 ≤ c) (c7 : c ≤ 3007) (hT : 2 ≤ T) (ha : V r 0 (T - 2) = a) (hb : V r 0 (T - 1) = b) (ba : -2147483648 ≤ a ∧ a ≤ 2147483647) (bb : -2147483648 ≤ b ∧ b ≤ 2147483647) : f_X6_reckon_11b (V, r, x, to, T, q) = Sum.inl (dv_u (dv_u V r 3 0 (if d_bd (k_val c a b) = none then 1 else 0)) r 0 (T - 2) (k_val c a b), r, x, to, T - 1, q + 1) := by
  rw [k_to h1 h2 h3 hc c0 (by omega) (Or.inl hT)]
  unfold f_X6_reckon_156
  rw [if_neg (by omega), if_pos (by omega), if_neg (by omega)]
  unfold f_X6_reckon_289 f_X6_reckon_412 f_X6_reckon_435 f_X6_reckon_453 f_X6_reckon_471 f_X6_reckon_489
  rw [bq, bq, bq, bq, show T - 1 - 1 = T - 2 by omega, ha, hb]
  have lba : lb a := by unfold lb; omega
  have lbb : lb b := by unfold lb; omega
  have E : ∀ v : Int, v = k_val c a b → f_X6_reckon_500 V (T - 1) r x to q v = Sum.inl (dv_u (dv_u V r 3 0 (if d_bd (k_val c a b) = none then 1 else 0)) r 0 (T - 2) (k_val c a b), r, x, to, T - 1, q + 1) := by
    intro v hv
    rw [k_500, hv, show T - 1 - 1 = T - 2 by omega]
  unfold k_val at E ⊢
  by_cases e0 : c = 3000
  · rw [if_pos e0, bq]
    exact E _ (by rw [if_pos e0, dv_ladd_ok lba lbb])
  · rw [if_neg e0]
    by_cases e1 : c = 3001
    · rw [if_pos e1, bq]
      exact E _ (by rw [if_neg e0, if_pos e1, dv_lsub_ok lba lbb])
    · rw [if_neg e1]
      by_cases e2 : c = 3002
      · rw [if_pos e2, bq]
        exact E _ (by rw [if_neg e0, if_neg e1, if_pos e2, dv_lmul_ok ba bb])
      · rw [if_neg e2]
        by_cases e3 : c = 3003
        · rw [if_pos e3, bq]
          by_cases k : dv_lcmp b 0 ≠ 0
          · rw [if_pos k, bq]
            have k' : b ≠ 0 := fun q => k (lcmp_eq.mpr q)
            exact E _ (by rw [if_neg e0, if_neg e1, if_neg e2, if_pos e3, if_neg k', dv_ldiv_ok ba bb])
          · rw [if_neg k]
            have k' : b = 0 := lcmp_eq.mp (by omega)
            exact E _ (by rw [if_neg e0, if_neg e1, if_neg e2, if_pos e3, if_pos k'])
        · rw [if_neg e3]
          by_cases e4 : c = 3004
          · rw [if_pos e4, bq]
            by_cases k : dv_lcmp b 0 ≠ 0
            · rw [if_pos k, bq]
              have k' : b ≠ 0 := fun q => k (lcmp_eq.mpr q)
              exact E _ (by rw [if_neg e0, if_neg e1, if_neg e2, if_neg e3, if_pos e4, if_neg k', dv_lrem_ok ba bb])
            · rw [if_neg k]
              have k' : b = 0 := lcmp_eq.mp (by omega)
              exact E _ (by rw [if_neg e0, if_neg e1, if_neg e2, if_neg e3, if_pos e4, if_pos k'])
          · rw [if_neg e4]
            by_cases e5 : c = 3005
            · rw [if_pos e5, bq]
              by_cases k : 0 ≤ dv_lcmp a b
              · rw [if_pos k]
                have k' := lcmp_ge.mp k
                exact E _ (by rw [if_neg e0, if_neg e1, if_neg e2, if_neg e3, if_neg e4, if_pos e5, if_neg (by omega)])
              · rw [if_neg k]
                have k' := mt lcmp_ge.mpr k
                exact E _ (by rw [if_neg e0, if_neg e1, if_neg e2, if_neg e3, if_neg e4, if_pos e5, if_pos (by omega)])
            · rw [if_neg e5]
              by_cases e6 : c = 3006
              · rw [if_pos e6, bq]
                by_cases k : dv_lcmp a b ≤ 0
                · rw [if_pos k]
                  have k' := lcmp_le.mp k
                  exact E _ (by rw [if_neg e0, if_neg e1, if_neg e2, if_neg e3, if_neg e4, if_neg e5, if_pos e6, if_neg (by omega)])
                · rw [if_neg k]
                  have k' := mt lcmp_le.mpr k
                  exact E _ (by rw [if_neg e0, if_neg e1, if_neg e2, if_neg e3, if_neg e4, if_neg e5, if_pos e6, if_pos (by omega)])
              · rw [if_neg e6, if_pos (by omega), bq]
                by_cases k : dv_lcmp a b ≠ 0
                · rw [if_pos k]
                  have k' : ¬ a = b := fun q => k (lcmp_eq.mpr q)
                  exact E _ (by rw [if_neg e0, if_neg e1, if_neg e2, if_neg e3, if_neg e4, if_neg e5, if_neg e6, if_neg k'])
                · rw [if_neg k]
                  have k' : a = b := lcmp_eq.mp (by omega)
                  exact E _ (by rw [if_neg e0, if_neg e1, if_neg e2, if_neg e3, if_neg e4, if_neg e5, if_neg e6, if_pos k'])
/-- two operands, one behind the other, and an operation -/
theorem K_two {X : Int → Int} {p m q h1 h2 c : Int} {A C R : dn} (hA : K_seg X p m A h1) (hC : K_seg X m q C h2) (hc : X q = c) (c0 : 3000 ≤ c) (c7 : c ≤ 3007) (iA : d_in A) (iC : d_in C)
    (hR : ∀ (w : Int → Int), (A w = none → R w = none) ∧ ∀ a, A w = some a → (C w = none → R w = none) ∧ ∀ b, C w = some b → R w = d_bd (k_val c a b)) {h : Int} (k1 : h1 ≤ h) (k2 : h2 + 1 ≤ h) : K_seg X p (q + 1) R h := by
  obtain ⟨p1, g1, fA⟩ := hA
  obtain ⟨p2, g2, fC⟩ := hC
  refine ⟨by omega, by omega, fun V r x to t w cx hw => ?_⟩
  have RA := (hR w).1
  have RC := (hR w).2
  have cA := fA V r x to t w (kx_cx_s (q' := m) cx (by omega) k1) hw
  cases eA : A w with
  | none =>
    rw [eA] at cA
    rw [RA eA]
    exact cA
  | some a =>
    rw [eA] at cA
    obtain ⟨V1, e1, f1, b1, s1⟩ := cA
    have cx1 : kx_cx X m (q + 1) h2 w V1 r x to (t + 1) := kx_cx_f cx f1 b1 (by omega) (by have := cx.2.2.1; omega)
    have cC := fC V1 r x to (t + 1) w (kx_cx_s (q' := q) cx1 (by omega) (by omega)) hw
    cases eC : C w with
    | none =>
      rw [eC] at cC
      rw [(RC a eA).1 eC]
      obtain ⟨V2, y, e2, f2, b2⟩ := cC
      exact ⟨V2, y, by rw [e1, e2], kx_t f1 (kx_m f2 (by omega)), b2⟩
    | some b =>
      rw [eC] at cC
      obtain ⟨V2, e2, f2, b2, s2⟩ := cC
      have f12 := kx_t f1 (kx_m f2 (show t ≤ t + 1 by omega))
      have cx2 : kx_cx X q (q + 1) 0 w V2 r x to (t + 2) := kx_cx_f cx1 (t' := t + 2) f2 b2 (by omega) (by have := cx1.2.2.1; omega)
      have op := k_op (V := V2) (r := r) (x := x) (to := to) (T := t + 2) (q := q) (c := c) (a := a) (b := b) (by have := cx2.2.1; omega) (by have := cx2.2.1; omega) b2 (by rw [cx2.1 q (by omega) (by omega), hc]) c0 c7 (by have := cx.2.2.1; omega) (by rw [show t + 2 - 2 = t by omega, f2.2 t (by omega), s1]) (by rw [show t + 2 - 1 = t + 1 by omega, s2]) (iA w hw a eA) (iC w hw b eC)
      rw [show t + 2 - 2 = t by omega, show t + 2 - 1 = t + 1 by omega] at op
      have ee : dv_lp f_X6_reckon_11b (V, r, x, to, t, p) = dv_lp f_X6_reckon_11b (V2, r, x, to, t + 2, q) := by rw [e1, e2, show t + 1 + 1 = t + 2 by omega]
      rw [(RC a eA).2 b eC]
      have hf : kx_fr r t V (dv_u (dv_u V2 r 3 0 (if d_bd (k_val c a b) = none then 1 else 0)) r 0 t (k_val c a b)) := kx_t f12 (kx_t kx_3 (kx_0 (by omega)))
      have h3 : dv_u (dv_u V2 r 3 0 (if d_bd (k_val c a b) = none then 1 else 0)) r 0 t (k_val c a b) r 3 0 = if d_bd (k_val c a b) = none then 1 else 0 := by
        unfold dv_u
        rw [if_neg (fun q => absurd q.2.1 (by decide)), if_pos ⟨rfl, rfl, rfl⟩]
      have h0 : dv_u (dv_u V2 r 3 0 (if d_bd (k_val c a b) = none then 1 else 0)) r 0 t (k_val c a b) r 0 t = k_val c a b := by
        unfold dv_u
        rw [if_pos ⟨rfl, rfl, rfl⟩]
      cases eR : d_bd (k_val c a b) with
      | none =>
        rw [eR, if_pos rfl] at h3 op hf
        obtain ⟨y, ey⟩ := k_brk (V := dv_u (dv_u V2 r 3 0 1) r 0 t (k_val c a b)) (r := r) (x := x) (to := to) (t := t + 1) (p := q + 1) (by rw [h3]; decide)
        exact ⟨_, y, by rw [ee, dv_lp_s op, ey], hf, by rw [h3]; decide⟩
      | some v =>
        rw [eR, if_neg (fun q => by cases q)] at h3 op hf h0
        refine ⟨_, by rw [ee, dv_lp_s op], hf, h3, ?_⟩
        rw [h0, (d_bd_in eR).1]
end QKO
section QKT
variable {V V' V1 : dV} {r x to t i : Int} {w : Int → Int}
/-- the class's code of a sign of the reference -/
def k_sg (c : Int) : Int := if c = 143 then 3000 else if c = 145 then 3001 else if c = 142 then 3002 else if c = 147 then 3003 else if c = 137 then 3004 else if c = 160 then 3005 else if c = 162 then 3006 else 3007
theorem k_val_cal {c a b : Int} (h : d_mul c ∨ d_add c) : d_cal c a b = d_bd (k_val (k_sg c) a b) := by
  unfold d_mul d_add at h
  rcases h with (rfl | rfl | rfl) | (rfl | rfl)
  · show d_bd (a * b) = _; rfl
  · show (if b = 0 then none else d_bd (a.tdiv b)) = d_bd (if b = 0 then 1000000001 else a.tdiv b)
    by_cases e : b = 0
    · rw [if_pos e, if_pos e]; rfl
    · rw [if_neg e, if_neg e]
  · show (if b = 0 then none else d_bd (a.tmod b)) = d_bd (if b = 0 then 1000000001 else a.tmod b)
    by_cases e : b = 0
    · rw [if_pos e, if_pos e]; rfl
    · rw [if_neg e, if_neg e]
  · show d_bd (a + b) = _; rfl
  · show d_bd (a - b) = _; rfl
theorem k_val_rel {c a b : Int} (h : c = 160 ∨ c = 162 ∨ c = 161) : some (d_rel c a b) = d_bd (k_val (k_sg c) a b) := by
  have q : ∀ z : Int, z = 0 ∨ z = 1 → some z = d_bd z := by
    rintro z (rfl | rfl) <;> rfl
  rcases h with rfl | rfl | rfl
  · show some (if a < b then 1 else 0) = d_bd (if a < b then 1 else 0)
    exact q _ (by split <;> omega)
  · show some (if b < a then 1 else 0) = d_bd (if b < a then 1 else 0)
    exact q _ (by split <;> omega)
  · show some (if a = b then 1 else 0) = d_bd (if a = b then 1 else 0)
    exact q _ (by split <;> omega)
theorem k_sg_in (c : Int) : 3000 ≤ k_sg c ∧ k_sg c ≤ 3007 := by unfold k_sg; repeat (split; first | omega); omega
theorem K_op {X : Int → Int} {p m q h1 h2 c : Int} {A C : dn} (hA : K_seg X p m A h1) (hC : K_seg X m q C h2) (hc : X q = k_sg c) (ho : d_mul c ∨ d_add c) (iA : d_in A) (iC : d_in C) {h : Int} (k1 : h1 ≤ h) (k2 : h2 + 1 ≤ h) : K_seg X p (q + 1) (d_op c A C) h := by
  refine K_two hA hC hc (k_sg_in c).1 (k_sg_in c).2 iA iC (fun w => ⟨fun eA => ?_, fun a eA => ⟨fun eC => ?_, fun b eC => ?_⟩⟩) k1 k2
  · unfold d_op; rw [eA]
  · unfold d_op; rw [eA, eC]
  · unfold d_op; rw [eA, eC]; exact k_val_cal ho
theorem K_cmp {X : Int → Int} {p m q h1 h2 c : Int} {A C : dn} (hA : K_seg X p m A h1) (hC : K_seg X m q C h2) (hc : X q = k_sg c) (ho : c = 160 ∨ c = 162 ∨ c = 161) (iA : d_in A) (iC : d_in C) {h : Int} (k1 : h1 ≤ h) (k2 : h2 + 1 ≤ h) : K_seg X p (q + 1) (d_cmp c A C) h := by
  refine K_two hA hC hc (k_sg_in c).1 (k_sg_in c).2 iA iC (fun w => ⟨fun eA => ?_, fun a eA => ⟨fun eC => ?_, fun b eC => ?_⟩⟩) k1 k2
  · unfold d_cmp; rw [eA]
  · unfold d_cmp; rw [eA, eC]
  · unfold d_cmp; rw [eA, eC]; exact k_val_rel ho
theorem lsub_1 {a : Int} (h : a = 0 ∨ a = 1) : dv_lsub 1 a = 1 - a := by
  rw [dv_lsub_ok (by unfold lb; omega) (by unfold lb; omega)]
theorem K_not {X : Int → Int} {p q h : Int} {A : dn} (hA : K_seg X p q A h) (hc : X q = 3008) (h01 : d_01 A) : K_seg X p (q + 1) (d_not A) h := by
  obtain ⟨p1, g1, fA⟩ := hA
  refine ⟨by omega, by omega, fun V r x to t w cx hw => ?_⟩
  have cA := fA V r x to t w (kx_cx_s (q' := q) cx (by omega) (by omega)) hw
  unfold d_not
  cases eA : A w with
  | none =>
    rw [eA] at cA
    exact cA
  | some a =>
    rw [eA] at cA
    obtain ⟨V1, e1, f1, b1, s1⟩ := cA
    have a01 := h01 w a eA
    have cx1 : kx_cx X q (q + 1) 0 w V1 r x to (t + 1) := kx_cx_f cx f1 b1 (by omega) (by have := cx.2.2.1; omega)
    have op : f_X6_reckon_11b (V1, r, x, to, t + 1, q) = Sum.inl (dv_u (dv_u V1 r 3 0 0) r 0 t (1 - a), r, x, to, t + 1, q + 1) := by
      rw [k_to (c := 3008) (by have := cx1.2.1; omega) (by have := cx1.2.1; omega) b1 (by rw [cx1.1 q (by omega) (by omega), hc]) (by decide) (by have := cx.2.2.1; omega) (Or.inr (by decide))]
      unfold f_X6_reckon_156
      rw [if_neg (by decide), if_pos (by decide), if_pos (by decide)]
      unfold f_X6_reckon_289
      rw [bq, bq, bq, bq, if_neg (by decide), if_neg (by decide), if_neg (by decide), if_neg (by decide), if_neg (by decide), if_neg (by decide), if_neg (by decide), if_neg (by decide), bq, show t + 1 - 0 - 1 = t by omega, s1, lsub_1 a01, k_500, show t + 1 - 0 - 1 = t by omega, show t + 1 - 0 = t + 1 by omega, if_neg (by unfold d_bd; rw [if_neg (by omega)]; exact fun q => by cases q)]
    refine ⟨_, by rw [e1, dv_lp_s op], kx_t f1 (kx_t kx_3 (kx_0 (by omega))), ?_, ?_⟩
    · unfold dv_u; rw [if_neg (fun q => absurd q.2.1 (by decide)), if_pos ⟨rfl, rfl, rfl⟩]
    · unfold dv_u; rw [if_pos ⟨rfl, rfl, rfl⟩]
/-- "and", "or": what is known goes past the second -/
theorem k_215 {T m s q : Int} (h2 : m + 1 < V x 2 0) (hq : V x 0 (m + 1) = q) (hmq : m + 2 < q) : f_X6_reckon_215 V (m + 1) r x to T s = Sum.inl (if s = 0 then (V, r, x, to, T - 1, m + 2) else (V, r, x, to, T, q)) := by
  unfold f_X6_reckon_215
  by_cases e : s = 0
  · rw [if_pos e, if_pos e]
    unfold f_X6_reckon_256 f_X6_reckon_268 f_X6_reckon_538
    rw [if_pos e, bq, bq, show m + 1 + 1 = m + 2 by omega]
  · rw [if_neg e, if_neg e, bq, if_neg (by omega), bq, bq, hq, if_neg (by omega), bq, bq]
    unfold f_X6_reckon_256 f_X6_reckon_268 f_X6_reckon_538
    rw [if_neg e, bq, bq, show q - 1 + 1 = q by omega, show T - 0 = T by omega]
theorem k_jmp {T m q c a : Int} (h1 : m < to) (h2 : m + 1 < V x 2 0) (h3 : V r 3 0 = 0) (hc : V x 0 m = c) (c9 : c = 3009 ∨ c = 3010) (hq : V x 0 (m + 1) = q) (hmq : m + 2 < q) (hT : 1 ≤ T) (ha : V r 0 (T - 1) = a) : ∃ s, f_X6_reckon_11b (V, r, x, to, T, m) = Sum.inl (if s = 0 then (V, r, x, to, T - 1, m + 2) else (V, r, x, to, T, q)) ∧ (s = 1 ∧ (a = 0 ∧ c = 3009 ∨ a ≠ 0 ∧ c = 3010) ∨ s = 0 ∧ (a ≠ 0 ∧ c = 3009 ∨ a = 0 ∧ c = 3010)) := by
  rw [k_to h1 (by omega) h3 hc (by omega) hT (Or.inr (by omega))]
  have e0 : f_X6_reckon_156 V c r x to T m = f_X6_reckon_172 V c r x to T m := by
    unfold f_X6_reckon_156
    rcases c9 with e | e
    · rw [if_pos e]
    · rw [if_neg (by omega), if_neg (fun q => q e)]
  rw [e0]
  unfold f_X6_reckon_172
  rw [bq, bq, bq, bq, ha]
  unfold f_X6_reckon_194 f_X6_reckon_207
  by_cases ea : a = 0
  · rw [if_pos (lcmp_eq.mpr ea)]
    rcases c9 with e | e
    · rw [if_pos (by omega), if_neg (by decide)]
      exact ⟨1, k_215 h2 hq hmq, by omega⟩
    · rw [if_neg (by omega), if_pos (by decide)]
      exact ⟨0, k_215 h2 hq hmq, by omega⟩
  · rw [if_neg (fun k => ea (lcmp_eq.mp k))]
    rcases c9 with e | e
    · rw [if_pos (by omega), if_pos (by decide)]
      exact ⟨0, k_215 h2 hq hmq, by omega⟩
    · rw [if_neg (by omega), if_neg (by decide)]
      exact ⟨1, k_215 h2 hq hmq, by omega⟩
theorem K_jmp {X : Int → Int} {p m q h1 h2 c : Int} {A C R : dn} (hA : K_seg X p m A h1) (hC : K_seg X (m + 2) q C h2) (hc : X m = c) (hj : X (m + 1) = q) (c9 : c = 3009 ∨ c = 3010)
    (hR : ∀ (w : Int → Int), (A w = none → R w = none) ∧ ∀ a, A w = some a → ((a = 0 ∧ c = 3009 ∨ a ≠ 0 ∧ c = 3010) → R w = some a) ∧ ((a ≠ 0 ∧ c = 3009 ∨ a = 0 ∧ c = 3010) → R w = C w)) {h : Int} (k1 : h1 ≤ h) (k2 : h2 ≤ h) : K_seg X p q R h := by
  obtain ⟨p1, g1, fA⟩ := hA
  obtain ⟨p2, g2, fC⟩ := hC
  refine ⟨by omega, by omega, fun V r x to t w cx hw => ?_⟩
  have cA := fA V r x to t w (kx_cx_s (q' := m) cx (by omega) k1) hw
  cases eA : A w with
  | none =>
    rw [eA] at cA
    rw [(hR w).1 eA]
    exact cA
  | some a =>
    rw [eA] at cA
    obtain ⟨V1, e1, f1, b1, s1⟩ := cA
    have RC := (hR w).2 a eA
    have cx1 : kx_cx X m q 0 w V1 r x to (t + 1) := kx_cx_f cx f1 b1 (by omega) (by have := cx.2.2.1; omega)
    have hb := cx1.2.1
    obtain ⟨s, es, hs⟩ := k_jmp (V := V1) (r := r) (x := x) (to := to) (T := t + 1) (m := m) (q := q) (c := c) (a := a) (by omega) (by omega) b1 (by rw [cx1.1 m (by omega) (by omega), hc]) c9 (by rw [cx1.1 (m + 1) (by omega) (by omega), hj]) p2 (by have := cx.2.2.1; omega) (by rw [show t + 1 - 1 = t by omega, s1])
    rw [show t + 1 - 1 = t by omega] at es
    rcases hs with ⟨rfl, hk⟩ | ⟨rfl, hk⟩
    · rw [if_neg (by decide)] at es
      rw [RC.1 hk]
      exact ⟨V1, by rw [e1, dv_lp_s es], f1, b1, s1⟩
    · rw [if_pos rfl] at es
      rw [RC.2 hk]
      have cx2 : kx_cx X (m + 2) q h2 w V1 r x to t := kx_cx_f cx f1 b1 (by omega) (by have := cx.2.2.1; omega)
      have cC := fC V1 r x to t w cx2 hw
      cases eC : C w with
      | none =>
        rw [eC] at cC
        obtain ⟨V2, y, e2, f2, b2⟩ := cC
        exact ⟨V2, y, by rw [e1, dv_lp_s es, e2], kx_t f1 f2, b2⟩
      | some b =>
        rw [eC] at cC
        obtain ⟨V2, e2, f2, b2, s2⟩ := cC
        exact ⟨V2, by rw [e1, dv_lp_s es, e2], kx_t f1 f2, b2, s2⟩
theorem K_and {X : Int → Int} {p m q h1 h2 : Int} {A C : dn} (hA : K_seg X p m A h1) (hC : K_seg X (m + 2) q C h2) (hc : X m = 3009) (hj : X (m + 1) = q) {h : Int} (k1 : h1 ≤ h) (k2 : h2 ≤ h) : K_seg X p q (d_and A C) h := by
  refine K_jmp hA hC hc hj (Or.inl rfl) (fun w => ⟨fun eA => ?_, fun a eA => ⟨fun k => ?_, fun k => ?_⟩⟩) k1 k2
  · unfold d_and; rw [eA]
  · unfold d_and; rw [eA]
    show (if a = 0 then some 0 else C w) = some a
    rw [if_pos (by omega), show a = 0 by omega]
  · unfold d_and; rw [eA]
    show (if a = 0 then some 0 else C w) = C w
    rw [if_neg (by omega)]
theorem K_or {X : Int → Int} {p m q h1 h2 : Int} {A C : dn} (hA : K_seg X p m A h1) (hC : K_seg X (m + 2) q C h2) (hc : X m = 3010) (hj : X (m + 1) = q) {h : Int} (k1 : h1 ≤ h) (k2 : h2 ≤ h) : K_seg X p q (d_or A C) h := by
  refine K_jmp hA hC hc hj (Or.inr rfl) (fun w => ⟨fun eA => ?_, fun a eA => ⟨fun k => ?_, fun k => ?_⟩⟩) k1 k2
  · unfold d_or; rw [eA]
  · unfold d_or; rw [eA]
    show (if a = 0 then C w else some a) = some a
    rw [if_neg (by omega)]
  · unfold d_or; rw [eA]
    show (if a = 0 then C w else some a) = C w
    rw [if_pos (by omega)]
/-- the class reckons: what A says, and nothing but its stack and "broken" changes -/
theorem K_run {X : Int → Int} {p q h : Int} {A : dn} (hA : K_seg X p q A h) (h62 : h ≤ 62) (hX : ∀ i, p ≤ i → i < q → V x 0 i = X i) (hq : q ≤ V x 2 0) (hw1 : ∀ k, 0 ≤ k → k < 23 → V r 1 k = w k) (hxr : x ≠ r) (hw : ∀ k, -2147483648 ≤ w k ∧ w k ≤ 2147483647) : ∃ (V' : dV) (y : Int), f_X6_reckon V r x p q = (V', y) ∧ kx_fr r 0 V V' ∧ match A w with
  | some v => V' r 3 0 = 0 ∧ y = v
  | none => V' r 3 0 ≠ 0 := by
  obtain ⟨p1, g1, fA⟩ := hA
  have hf : kx_fr r 0 V (dv_u V r 3 0 0) := kx_3
  have h3 : dv_u V r 3 0 0 r 3 0 = 0 := by unfold dv_u; rw [if_pos ⟨rfl, rfl, rfl⟩]
  have cx : kx_cx X p q h w (dv_u V r 3 0 0) r x q 0 := by
    refine ⟨fun i i0 i1 => ?_, ⟨?_, by omega⟩, ⟨by omega, by omega⟩, h3, fun k k0 k1 => ?_, hxr⟩
    · rw [hf.1 x 0 i (fun q => hxr q.1)]; exact hX i i0 i1
    · rw [hf.1 x 2 0 (fun q => hxr q.1)]; exact hq
    · rw [hf.1 r 1 k (fun q => q.2.elim (by decide) (by decide))]; exact hw1 k k0 k1
  have cA := fA _ r x q 0 w cx hw
  unfold f_X6_reckon
  rw [bq]
  cases eA : A w with
  | none =>
    rw [eA] at cA
    obtain ⟨V', y, e, f, b⟩ := cA
    exact ⟨V', y, e, kx_t hf f, b⟩
  | some v =>
    rw [eA] at cA
    obtain ⟨V', e, f, b, s⟩ := cA
    refine ⟨V', v, ?_, kx_t hf f, b, rfl⟩
    rw [e]
    refine dv_lp_e ?_
    rw [f_X6_reckon_11e]
    unfold f_X6_reckon_11c
    rw [if_pos (by omega), bq, s]
end QKT
section QRD
variable {V V' V1 W W' W1 : dV} {r x a i t c v o p : Int} {tk pl cd vl : Int → Int} {j k : Nat} {b z y : Int}
theorem u_e : dv_u V a j i y a j i = y := by unfold dv_u; rw [if_pos ⟨rfl, rfl, rfl⟩]
theorem u_j (h : k ≠ j) : dv_u V a j i y b k z = V b k z := by unfold dv_u; rw [if_neg (fun q => h q.2.1)]
theorem u_b (h : b ≠ a) : dv_u V a j i y b k z = V b k z := by unfold dv_u; rw [if_neg (fun q => h q.1)]
theorem u_i (h : z ≠ i) : dv_u V a j i y b k z = V b k z := by unfold dv_u; rw [if_neg (fun q => h q.2.2)]
/-- a word of the class's reader and its code in the reference -/
def rd_wp (t c : Int) : Prop := ((301 ≤ t ∧ t ≤ 303) ∧ c = t - 300) ∨ (t = 304 ∧ c = 21) ∨ ((305 ≤ t ∧ t ≤ 307) ∧ c = t - 281) ∨ (t = 308 ∧ c = 4) ∨ (t = 309 ∧ c = 27) ∨ ((310 ≤ t ∧ t ≤ 311) ∧ c = t - 288) ∨ ((312 ≤ t ∧ t ≤ 317) ∧ c = t - 307) ∨ (t = 318 ∧ c = 14) ∨ ((319 ≤ t ∧ t ≤ 320) ∧ c = t - 308) ∨ (t = 321 ∧ c = 15) ∨ (t = 322 ∧ c = 13) ∨ ((323 ≤ t ∧ t ≤ 327) ∧ c = t - 307)
/-- a token of the class's reader; code and value in the reference -/
def rd_tk (t c v : Int) : Prop := (t = -1 ∧ c = 0) ∨ (t = 300 ∧ c = 0) ∨ ((0 ≤ t ∧ t ≤ 255) ∧ c = 100 + t) ∨ rd_wp t c ∨ ((400 ≤ t ∧ t ≤ 1401) ∧ c = 50 ∧ ((v = t - 400 ∧ t ≤ 1400) ∨ (t = 1401 ∧ 1000 < v)))
theorem rd_sg (h : rd_tk t c v) (h0 : 0 ≤ b) (h1 : b ≤ 255) : t = b ↔ c = 100 + b := by
  unfold rd_tk rd_wp at h; omega
theorem rd_wd {b e : Int} (h : rd_tk t c v) (h0 : rd_wp b e) : t = b ↔ c = e := by
  unfold rd_tk rd_wp at *; omega
/-- how many bytes it has at least -/
def rd_w (t : Int) : Int := if t = 312 then 2 else if t = 313 then 3 else 1
/-- N tokens and the end -/
def rd_ts (tk pl cd vl : Int → Int) (N : Int) : Prop := (0 ≤ N ∧ N ≤ 400) ∧ tk N = -1 ∧ ∀ i, 0 ≤ i → i ≤ N → rd_tk (tk i) (cd i) (vl i) ∧ (0 ≤ pl i ∧ pl i ≤ 400) ∧ (i < N → tk i ≠ -1 ∧ pl i + rd_w (tk i) ≤ pl (i + 1))
/-- the class's reader r into the text x -/
def rd_cx (o : Int) (tk pl : Int → Int) (V : dV) (r x : Int) : Prop := (∀ z, V r 0 z = tk z) ∧ (∀ z, V r 1 z = pl z) ∧ V r 3 0 = x ∧ V r 4 0 = o ∧ x ≠ r ∧ (o = 0 ∨ o = 1)
def rd_fr (r x : Int) (V V' : dV) : Prop := ∀ b j z, ¬ (b = r ∧ (j = 5 ∨ j = 6 ∨ j = 7 ∨ j = 8)) → ¬ (b = x ∧ (j = 0 ∨ j = 2)) → V' b j z = V b j z
theorem rd_fr_r : rd_fr r x V V := fun _ _ _ _ _ => rfl
theorem rd_fr_t (h : rd_fr r x V V') (h1 : rd_fr r x V' V1) : rd_fr r x V V1 := fun b j z k k1 => (h1 b j z k k1).trans (h b j z k k1)
theorem rd_fr_u (h : j = 5 ∨ j = 6 ∨ j = 7 ∨ j = 8) : rd_fr r x V (dv_u V r j i y) := fun b k z q _ => by
  unfold dv_u; rw [if_neg (fun e => q ⟨e.1, by rw [e.2.1]; exact h⟩)]
theorem rd_fr_x (h : j = 0 ∨ j = 2) : rd_fr r x V (dv_u V x j i y) := fun b k z _ q => by
  unfold dv_u; rw [if_neg (fun e => q ⟨e.1, by rw [e.2.1]; exact h⟩)]
theorem rd_cx_f (c : rd_cx o tk pl V r x) (f : rd_fr r x V V') : rd_cx o tk pl V' r x := by
  obtain ⟨h1, h2, h3, h4, h5, h6⟩ := c
  have k : ∀ (j : Nat) (z : Int), j < 5 → V' r j z = V r j z := fun j z hj => f r j z (fun q => by omega) (fun q => h5 q.1.symm)
  exact ⟨fun z => by rw [k 0 z (by decide)]; exact h1 z, fun z => by rw [k 1 z (by decide)]; exact h2 z, by rw [k 3 0 (by decide)]; exact h3, by rw [k 4 0 (by decide)]; exact h4, h5, h6⟩
/-- the reference's reader -/
def re_cx (o : Int) (cd vl pl : Int → Int) (W : dV) (a : Int) : Prop := (∀ z, W a 15 z = cd z) ∧ (∀ z, W a 16 z = vl z) ∧ (∀ z, W a 17 z = pl z) ∧ W a 10 0 = o ∧ (o = 0 → W a 8 0 = 8 ∧ W a 9 0 = 15) ∧ (o = 1 → W a 8 0 = 14 ∧ W a 9 0 = 20)
def re_fr (a : Int) (W W' : dV) : Prop := ∀ b j z, ¬ (b = a ∧ (j = 19 ∨ j = 20 ∨ j = 21)) → W' b j z = W b j z
theorem re_fr_r : re_fr a W W := fun _ _ _ _ => rfl
theorem re_fr_t (h : re_fr a W W') (h1 : re_fr a W' W1) : re_fr a W W1 := fun b j z k => (h1 b j z k).trans (h b j z k)
theorem re_fr_u (h : j = 19 ∨ j = 20 ∨ j = 21) : re_fr a W (dv_u W a j i y) := fun b k z q => by
  unfold dv_u; rw [if_neg (fun e => q ⟨e.1, by rw [e.2.1]; exact h⟩)]
theorem re_cx_f (c : re_cx o cd vl pl W a) (f : re_fr a W W') : re_cx o cd vl pl W' a := by
  obtain ⟨h1, h2, h3, h4, h5, h6⟩ := c
  have k : ∀ (j : Nat) (z : Int), j < 19 → W' a j z = W a j z := fun j z hj => f a j z (fun q => by omega)
  exact ⟨fun z => by rw [k 15 z (by decide)]; exact h1 z, fun z => by rw [k 16 z (by decide)]; exact h2 z, fun z => by rw [k 17 z (by decide)]; exact h3 z, by rw [k 10 0 (by decide)]; exact h4, fun e => by rw [k 8 0 (by decide), k 9 0 (by decide)]; exact h5 e, fun e => by rw [k 8 0 (by decide), k 9 0 (by decide)]; exact h6 e⟩
-- the class's steps
theorem c_seen (c : rd_cx o tk pl V r x) (h : V r 8 0 = -1) : f_X5_seenToken V r = (tk (V r 5 0), ()) := by
  unfold f_X5_seenToken
  rw [bq, if_neg (fun q => q h), bq, bq, c.1]
theorem c_seen_f (h : V r 8 0 ≠ -1) : f_X5_seenToken V r = (-1, ()) := by
  unfold f_X5_seenToken
  rw [bq, if_pos h]
theorem c_take1 (c : rd_cx o tk pl V r x) (h : V r 8 0 = -1) (e : tk (V r 5 0) = t) : f_X5_take V r t = (dv_u V r 5 0 (V r 5 0 + 1), 1) := by
  unfold f_X5_take
  rw [bq, if_neg (fun q => q h), bq, bq, c.1, if_pos e, bq, bq, bq]
theorem c_take0 (c : rd_cx o tk pl V r x) (e : V r 8 0 = -1 → tk (V r 5 0) ≠ t) : f_X5_take V r t = (V, 0) := by
  unfold f_X5_take
  rw [bq]
  by_cases h : V r 8 0 = -1
  · rw [if_neg (fun q => q h), bq, bq, c.1, if_neg (e h)]
  · rw [if_pos h]
theorem c_fail (c : rd_cx o tk pl V r x) (h : V r 8 0 = -1) : f_X5_fail V r = (dv_u V r 8 0 (pl (V r 5 0)), 0) := by
  unfold f_X5_fail
  rw [bq, if_neg (fun q => q h), bq, bq, c.2.1, bq]
theorem c_fail_f (h : V r 8 0 ≠ -1) : f_X5_fail V r = (V, 0) := by
  unfold f_X5_fail
  rw [bq, if_pos h]
theorem c_num1 (c : rd_cx o tk pl V r x) (h : V r 8 0 = -1) {l m n : Int} (e : tk (V r 5 0) = 400 + n) (n0 : l ≤ n) (n1 : n ≤ m) (n2 : 0 ≤ n ∧ n ≤ 1001) : f_X5_takeNumber V r l m = (dv_u V r 5 0 (V r 5 0 + 1), n) := by
  unfold f_X5_takeNumber
  rw [bq, bq, c.1, bq, e, dv_sub_ok (by omega) (by omega) (by omega) (by omega) (by omega) (by omega), show 400 + n - 400 = n by omega, bq, if_neg (fun q => q h), if_neg (by omega), if_pos n1, bq, bq, bq]
theorem c_num0 (c : rd_cx o tk pl V r x) {l m n : Int} (e : V r 8 0 = -1 → tk (V r 5 0) = 400 + n ∧ (n < l ∨ m < n)) (bd : V r 8 0 = -1 → -1000 ≤ n ∧ n ≤ 1001) : f_X5_takeNumber V r l m = (V, -1) := by
  unfold f_X5_takeNumber
  rw [bq, bq, c.1, bq, bq]
  by_cases h : V r 8 0 = -1
  · have e1 := (e h).1
    have e2 := (e h).2
    have e3 := bd h
    rw [if_neg (fun q => q h), e1, dv_sub_ok (by omega) (by omega) (by omega) (by omega) (by omega) (by omega), show 400 + n - 400 = n by omega]
    by_cases k : n < l
    · rw [if_pos k]
    · rw [if_neg k, if_neg (by omega)]
  · rw [if_pos h]
theorem c_add_n : f_X10_add V x (-1) = (V, 0) := by
  unfold f_X10_add
  rw [if_pos rfl]
theorem c_add (hc : c ≠ -1) (h : V x 2 0 < 400) : f_X10_add V x c = (dv_u (dv_u V x 0 (V x 2 0) c) x 2 0 (V x 2 0 + 1), 0) := by
  unfold f_X10_add
  rw [if_neg hc, bq, bq, if_neg (by omega), bq, bq, bq, bq, bq, u_j (by decide)]
theorem c_add_f : ∃ V', f_X10_add V x c = (V', 0) ∧ rd_fr r x V V' ∧ ∀ j z, x ≠ r → V' r j z = V r j z := by
  by_cases hc : c = -1
  · exact ⟨V, by rw [hc]; exact c_add_n, rd_fr_r, fun _ _ _ => rfl⟩
  · by_cases h : V x 2 0 < 400
    · exact ⟨_, c_add hc h, rd_fr_t (rd_fr_x (Or.inl rfl)) (rd_fr_x (Or.inr rfl)), fun j z k => by rw [u_b (Ne.symm k), u_b (Ne.symm k)]⟩
    · refine ⟨V, ?_, rd_fr_r, fun _ _ _ => rfl⟩
      unfold f_X10_add
      rw [if_neg hc, bq, bq, if_pos (by omega)]
-- the reference's steps
theorem m_fine1 (h : W a 21 0 = -1) : f_X12_fine W a = (1, ()) := by
  unfold f_X12_fine
  rw [bq, if_neg (fun q => q h)]
theorem m_fine0 (h : W a 21 0 ≠ -1) : f_X12_fine W a = (0, ()) := by
  unfold f_X12_fine
  rw [bq, if_pos h]
theorem m_take1 (k : re_cx o cd vl pl W a) (h : W a 21 0 = -1) (e : cd (W a 19 0) = c) : f_X12_takes0 W a c = (dv_u W a 19 0 (W a 19 0 + 1), 1) := by
  unfold f_X12_takes0
  rw [dv_bn2 (m_fine1 h), if_neg (by decide), bq, bq, k.1, if_neg (fun q => q e), bq, bq, bq]
theorem m_take0 (k : re_cx o cd vl pl W a) (e : W a 21 0 = -1 → cd (W a 19 0) ≠ c) : f_X12_takes0 W a c = (W, 0) := by
  unfold f_X12_takes0
  by_cases h : W a 21 0 = -1
  · rw [dv_bn2 (m_fine1 h), if_neg (by decide), bq, bq, k.1, if_pos (e h)]
  · rw [dv_bn2 (m_fine0 h), if_pos rfl]
theorem m_faults (k : re_cx o cd vl pl W a) (h : W a 21 0 = -1) : f_X12_faults W a = (dv_u W a 21 0 (pl (W a 19 0)), 0) := by
  unfold f_X12_faults
  rw [dv_bn2 (m_fine1 h), if_neg (by decide), bq, bq, k.2.2.1, bq]
theorem m_faults_f (h : W a 21 0 ≠ -1) : f_X12_faults W a = (W, 0) := by
  unfold f_X12_faults
  rw [dv_bn2 (m_fine0 h), if_pos rfl]
theorem m_must1 (k : re_cx o cd vl pl W a) (h : W a 21 0 = -1) (e : cd (W a 19 0) = c) : f_X12_must W a c = (dv_u W a 19 0 (W a 19 0 + 1), 0) := by
  unfold f_X12_must
  rw [dv_bn2 (m_take1 k h e), if_pos (by decide)]
theorem m_must0 (k : re_cx o cd vl pl W a) (h : W a 21 0 = -1) (e : cd (W a 19 0) ≠ c) : f_X12_must W a c = (dv_u W a 21 0 (pl (W a 19 0)), 0) := by
  unfold f_X12_must
  rw [dv_bn2 (m_take0 k (fun _ => e)), if_neg (fun q => q rfl), dv_bn2 (m_faults k h)]
theorem m_must_f (k : re_cx o cd vl pl W a) (h : W a 21 0 ≠ -1) : f_X12_must W a c = (W, 0) := by
  unfold f_X12_must
  rw [dv_bn2 (m_take0 k (fun q => absurd q h)), if_neg (fun q => q rfl), dv_bn2 (m_faults_f h)]
theorem m_leaf1 (h : W a 21 0 = -1) (h0 : 0 ≤ W a 20 0) (h1 : W a 20 0 < 50) : f_X12_leaf W a = (dv_u (dv_u W a 20 0 (W a 20 0 + 1)) a 19 0 (W a 19 0 + 1), 0) := by
  unfold f_X12_leaf
  rw [bq, if_pos (by omega), bq, bq, dv_add_ok (by omega) (by omega) (by omega) (by omega) (by decide) (by decide), bq, dv_bn2 (m_fine1 (by rw [u_j (by decide)]; exact h)), if_neg (by decide), bq, bq, bq, u_j (by decide)]
theorem m_leaf0 (k : re_cx o cd vl pl W a) (h : W a 21 0 = -1) (h1 : W a 20 0 = 50) (hp : pl (W a 19 0) ≠ -1) : f_X12_leaf W a = (dv_u (dv_u W a 21 0 (pl (W a 19 0))) a 20 0 51, 0) := by
  unfold f_X12_leaf
  rw [bq, if_neg (fun q => q h1), dv_bn2 (m_faults k h), bq, bq, u_j (by decide), h1, bq, dv_bn2 (m_fine0 (by rw [u_j (by decide), u_e]; exact hp)), if_pos rfl]
  rfl
theorem m_num1 (k : re_cx o cd vl pl W a) (h : W a 21 0 = -1) {l m : Int} (e : cd (W a 19 0) = 50) (n0 : l ≤ vl (W a 19 0)) (n1 : vl (W a 19 0) ≤ m) : f_X12_mustNumber W a l m = (dv_u W a 19 0 (W a 19 0 + 1), 0) := by
  unfold f_X12_mustNumber
  rw [dv_bn2 (m_fine1 h), if_neg (by decide), bq, bq, k.1, if_neg (fun q => q e), bq, bq, k.2.1, dv_bn2 q_lies, if_pos (by rw [if_pos ⟨n0, n1⟩]; decide), dv_bn2 (m_fine1 h), if_neg (by decide), bq, bq, bq]
theorem m_num0 (k : re_cx o cd vl pl W a) (h : W a 21 0 = -1) {l m : Int} (e : cd (W a 19 0) ≠ 50 ∨ vl (W a 19 0) < l ∨ m < vl (W a 19 0)) (hp : pl (W a 19 0) ≠ -1) : f_X12_mustNumber W a l m = (dv_u W a 21 0 (pl (W a 19 0)), 0) := by
  have f0 : f_X12_fine (dv_u W a 21 0 (pl (W a 19 0))) a = (0, ()) := m_fine0 (by rw [u_e]; exact hp)
  unfold f_X12_mustNumber
  rw [dv_bn2 (m_fine1 h), if_neg (by decide), bq, bq, k.1]
  by_cases e5 : cd (W a 19 0) = 50
  · rw [if_neg (fun q => q e5), bq, bq, k.2.1, dv_bn2 q_lies, if_neg (by rw [if_neg (by omega)]; decide), dv_bn2 (m_faults k h), dv_bn2 f0, if_pos rfl]
  · rw [if_pos e5, dv_bn2 (m_faults k h), dv_bn2 f0, if_pos rfl]
theorem m_num_f {l m : Int} (h : W a 21 0 ≠ -1) : f_X12_mustNumber W a l m = (W, 0) := by
  unfold f_X12_mustNumber
  rw [dv_bn2 (m_fine0 h), if_pos rfl, dv_bn2 (m_fine0 h), if_pos rfl]
end QRD
section QRP
variable {V V' V1 V2 W W' W1 : dV} {r x a i t c v o p : Int} {tk pl cd vl : Int → Int} {D : Nat} {rc : dV → Int → dR}
theorem K_seg_m {X : Int → Int} {p q h h' : Int} {A : dn} (hA : K_seg X p q A h) (k : h ≤ h') : K_seg X p q A h' := by
  obtain ⟨h1, h2, f⟩ := hA
  exact ⟨h1, by omega, fun V r x to t w cx hw => f V r x to t w (kx_cx_s cx (by omega) k) hw⟩
theorem c_law1 (h0 : 315 ≤ t) (h1 : t ≤ 322) : f_X5_lawCode V t = (2000 + (t - 315), ()) := by
  unfold f_X5_lawCode
  rw [if_neg (by omega), if_neg (by omega), bq, bq]
  exact Prod.ext (by show 2000 + t - 315 = _; omega) rfl
theorem c_law0 (h : t < 315 ∨ 322 < t) : f_X5_lawCode V t = (-1, ()) := by
  unfold f_X5_lawCode
  by_cases e : t < 315
  · rw [if_pos e]
  · rw [if_neg e, if_pos (by omega)]
theorem c_ord1 (h0 : 323 ≤ t) (h1 : t ≤ 326) : f_X5_orderCode V t = (2000 + (t - 322), ()) := by
  unfold f_X5_orderCode
  rw [if_neg (by omega), if_neg (by omega), bq, bq]
  exact Prod.ext (by show 2001 + t - 323 = _; omega) rfl
theorem c_ord2 (h : t = 321 ∨ t = 318 ∨ t = 327) : f_X5_orderCode V t = (if t = 321 then 2000 else if t = 318 then 2005 else 2014, ()) := by
  unfold f_X5_orderCode f_X5_orderCode_24
  rcases h with rfl | rfl | rfl <;> rfl
theorem c_ord0 (h : ¬ (323 ≤ t ∧ t ≤ 326)) (h1 : t ≠ 321) (h2 : t ≠ 318) (h3 : t ≠ 327) : f_X5_orderCode V t = (-1, ()) := by
  unfold f_X5_orderCode f_X5_orderCode_24
  have e : (if t ≠ 321 then (if t ≠ 318 then (if t ≠ 327 then ((-1 : Int), ()) else (2014, ())) else (2005, ())) else (2000, ())) = (-1, ()) := by
    rw [if_pos h1, if_pos h2, if_pos h3]
  rw [e]
  by_cases k : t < 323
  · rw [if_pos k]
  · rw [if_neg k, if_pos (by omega)]

theorem c_175n : f_X5_readPart_175 D rc V r (-1) = ((f_X5_fail V r).1, 0) := by
  unfold f_X5_readPart_175 f_X5_readPart_184
  rw [if_neg (fun q => q rfl), bq2, bq, dv_bn2 c_add_n]
theorem c_175p (h : c ≠ -1) : f_X5_readPart_175 D rc V r c = ((f_X10_add V (V r 3 0) c).1, 0) := by
  unfold f_X5_readPart_175 f_X5_readPart_184
  rw [if_pos h, bq, bq2]

theorem c_175nx2 : f_X5_readPart_175x2 D rc V r (-1) = ((f_X5_fail V r).1, 0) := by
  unfold f_X5_readPart_175x2 f_X5_readPart_184x2
  rw [if_neg (fun q => q rfl), bq2, bq, dv_bn2 c_add_n]
theorem c_175px2 (h : c ≠ -1) : f_X5_readPart_175x2 D rc V r c = ((f_X10_add V (V r 3 0) c).1, 0) := by
  unfold f_X5_readPart_175x2 f_X5_readPart_184x2
  rw [if_pos h, bq, bq2]

theorem c_175nx3 : f_X5_readPart_175x3 D rc V r (-1) = ((f_X5_fail V r).1, 0) := by
  unfold f_X5_readPart_175x3 f_X5_readPart_184x3
  rw [if_neg (fun q => q rfl), bq2, bq, dv_bn2 c_add_n]
theorem c_175px3 (h : c ≠ -1) : f_X5_readPart_175x3 D rc V r c = ((f_X10_add V (V r 3 0) c).1, 0) := by
  unfold f_X5_readPart_175x3 f_X5_readPart_184x3
  rw [if_pos h, bq, bq2]

theorem c_175nx4 : f_X5_readPart_175x4 D rc V r (-1) = ((f_X5_fail V r).1, 0) := by
  unfold f_X5_readPart_175x4 f_X5_readPart_184x4
  rw [if_neg (fun q => q rfl), bq2, bq, dv_bn2 c_add_n]
theorem c_175px4 (h : c ≠ -1) : f_X5_readPart_175x4 D rc V r c = ((f_X10_add V (V r 3 0) c).1, 0) := by
  unfold f_X5_readPart_175x4 f_X5_readPart_184x4
  rw [if_pos h, bq, bq2]

theorem c_175nx5 : f_X5_readPart_175x5 D rc V r (-1) = ((f_X5_fail V r).1, 0) := by
  unfold f_X5_readPart_175x5 f_X5_readPart_184x5
  rw [if_neg (fun q => q rfl), bq2, bq, dv_bn2 c_add_n]
theorem c_175px5 (h : c ≠ -1) : f_X5_readPart_175x5 D rc V r c = ((f_X10_add V (V r 3 0) c).1, 0) := by
  unfold f_X5_readPart_175x5 f_X5_readPart_184x5
  rw [if_pos h, bq, bq2]

theorem c_175nx6 : f_X5_readPart_175x6 D rc V r (-1) = ((f_X5_fail V r).1, 0) := by
  unfold f_X5_readPart_175x6 f_X5_readPart_184x6
  rw [if_neg (fun q => q rfl), bq2, bq, dv_bn2 c_add_n]
theorem c_175px6 (h : c ≠ -1) : f_X5_readPart_175x6 D rc V r c = ((f_X10_add V (V r 3 0) c).1, 0) := by
  unfold f_X5_readPart_175x6 f_X5_readPart_184x6
  rw [if_pos h, bq, bq2]

theorem c_154 {u : Int} : f_X5_readPart_154 D rc V u r = if (f_X5_takeNumber V r 0 8).2 ≠ -1 then f_X5_readPart_175x3 D rc (f_X5_takeNumber V r 0 8).1 r (u + (f_X5_takeNumber V r 0 8).2) else f_X5_readPart_175x3 D rc (f_X5_takeNumber V r 0 8).1 r (-1) := by
  unfold f_X5_readPart_154
  rw [bq2, bq]

theorem c_154x2 {u : Int} : f_X5_readPart_154x2 D rc V u r = if (f_X5_takeNumber V r 0 8).2 ≠ -1 then f_X5_readPart_175x4 D rc (f_X5_takeNumber V r 0 8).1 r (u + (f_X5_takeNumber V r 0 8).2) else f_X5_readPart_175x4 D rc (f_X5_takeNumber V r 0 8).1 r (-1) := by
  unfold f_X5_readPart_154x2
  rw [bq2, bq]

theorem c_part50 (hs : f_X5_seenToken V r = (t, ())) (h91 : t ≠ 91) (h50 : ¬ V r 6 0 < 50) : f_X5_readPart D V r = ((f_X5_fail V r).1, 0) := by
  rw [f_X5_readPart_d]
  unfold f_X5_readPart_B
  rw [dv_bn2 hs, if_pos h91, bq, if_neg h50, bq2]
/-- no such word -/
theorem c_partN (hs : f_X5_seenToken V r = (t, ())) (h91 : t ≠ 91) (h50 : V r 6 0 < 50) (h4 : t < 400) (ho : V r 4 0 = 0 ∧ (t < 315 ∨ 322 < t) ∨ V r 4 0 ≠ 0 ∧ ¬ (323 ≤ t ∧ t ≤ 326) ∧ t ≠ 321 ∧ t ≠ 318 ∧ t ≠ 327) : f_X5_readPart D V r = ((f_X5_fail (dv_u (dv_u V r 6 0 (V r 6 0 + 1)) r 5 0 (V r 5 0)) r).1, 0) := by
  rw [f_X5_readPart_d]
  unfold f_X5_readPart_B
  rw [dv_bn2 hs, if_pos h91, bq, if_pos h50, bq, bq, bq, if_pos h4, bq, u_j (by decide)]
  rcases ho with ⟨o0, k⟩ | ⟨o1, k0, k1, k2, k3⟩
  · rw [if_pos o0, dv_bn2 (c_law0 k), bq, if_pos rfl, bq, bq, bq, u_j (by decide), u_j (by decide), if_pos o0, c_175n, u_j (by decide), Int.add_zero]
  · rw [if_neg o1, dv_bn2 (c_ord0 k0 k1 k2 k3), bq, if_pos rfl, bq, bq, bq, u_j (by decide), u_j (by decide), if_neg o1, if_neg k2, if_pos k3, c_175nx3, u_j (by decide), Int.add_zero]
/-- a word of a law -/
theorem c_partL (hs : f_X5_seenToken V r = (t, ())) (h50 : V r 6 0 < 50) (ho : V r 4 0 = 0) (h0 : 315 ≤ t) (h1 : t ≤ 322) : f_X5_readPart D V r = ((f_X10_add (dv_u (dv_u V r 6 0 (V r 6 0 + 1)) r 5 0 (V r 5 0 + 1)) (V r 3 0) (2000 + (t - 315))).1, 0) := by
  rw [f_X5_readPart_d]
  unfold f_X5_readPart_B
  rw [dv_bn2 hs, if_pos (by omega), bq, if_pos h50, bq, bq, bq, if_pos (by omega), bq, u_j (by decide), if_pos ho, dv_bn2 (c_law1 h0 h1), bq, if_neg (by omega), if_neg (by omega), bq, bq, bq, u_j (by decide), u_j (by decide), if_pos ho, c_175px2 (by omega), u_j (by decide), u_j (by decide), u_j (by decide)]
/-- a word of orders -/
theorem c_partO (hs : f_X5_seenToken V r = (t, ())) (h50 : V r 6 0 < 50) (ho : V r 4 0 ≠ 0) (h : (323 ≤ t ∧ t ≤ 326) ∨ t = 321) : f_X5_readPart D V r = ((f_X10_add (dv_u (dv_u V r 6 0 (V r 6 0 + 1)) r 5 0 (V r 5 0 + 1)) (V r 3 0) (2000 + (if t = 321 then 0 else t - 322))).1, 0) := by
  have e : f_X5_orderCode (dv_u V r 6 0 (V r 6 0 + 1)) t = (2000 + (if t = 321 then 0 else t - 322), ()) := by
    rcases h with h | h
    · rw [c_ord1 h.1 h.2, if_neg (by omega)]
    · rw [c_ord2 (Or.inl h), if_pos h, if_pos h]; rfl
  have g : 2000 + (if t = 321 then 0 else t - 322) ≠ -1 := by split <;> omega
  rw [f_X5_readPart_d]
  unfold f_X5_readPart_B
  rw [dv_bn2 hs, if_pos (by omega), bq, if_pos h50, bq, bq, bq, if_pos (by omega), bq, u_j (by decide), if_neg ho, dv_bn2 e, bq, if_neg g, if_neg (by omega), bq, bq, bq, u_j (by decide), u_j (by decide), if_neg ho, if_neg (by omega), if_pos (by omega), c_175px4 g, u_j (by decide), u_j (by decide), u_j (by decide)]
/-- pile, laid -/
theorem c_partP (hs : f_X5_seenToken V r = (t, ())) (h50 : V r 6 0 < 50) (ho : V r 4 0 ≠ 0) (h : t = 318 ∨ t = 327) : f_X5_readPart D V r = f_X5_readPart_154x2 D (dv_pre (fun _ _ => dv_z) f_X5_readSum D) (dv_u (dv_u V r 6 0 (V r 6 0 + 1)) r 5 0 (V r 5 0 + 1)) (if t = 318 then 2005 else 2014) r := by
  have e : f_X5_orderCode (dv_u V r 6 0 (V r 6 0 + 1)) t = (if t = 318 then 2005 else 2014, ()) := by
    rw [c_ord2 (Or.inr h), if_neg (by omega)]
  have g : (if t = 318 then (2005 : Int) else 2014) ≠ -1 := by split <;> omega
  rw [f_X5_readPart_d]
  unfold f_X5_readPart_B
  rw [dv_bn2 hs, if_pos (by omega), bq, if_pos h50, bq, bq, bq, if_pos (by omega), bq, u_j (by decide), if_neg ho, dv_bn2 e, bq, if_neg g, if_neg (by omega), bq, bq, bq, u_j (by decide), u_j (by decide), if_neg ho, u_j (by decide)]
  by_cases k : t = 318
  · rw [if_pos k]
  · rw [if_neg k, if_neg (by omega)]
/-- a NUMBER -/
theorem c_partM (hs : f_X5_seenToken V r = (t, ())) (h50 : V r 6 0 < 50) (h4 : 400 ≤ t) {n : Int} (hn : f_X5_takeNumber (dv_u V r 6 0 (V r 6 0 + 1)) r 0 1000 = (V1, n)) : f_X5_readPart D V r = (if n = -1 then ((f_X5_fail (dv_u V1 r 5 0 (V1 r 5 0)) r).1, 0) else ((f_X10_add (dv_u V1 r 5 0 (V1 r 5 0)) (V1 r 3 0) n).1, 0)) := by
  rw [f_X5_readPart_d]
  unfold f_X5_readPart_B
  rw [dv_bn2 hs, if_pos (by omega), bq, if_pos h50, bq, bq, bq, if_neg (by omega), dv_bn2 hn, bq]
  by_cases e : n = -1
  · rw [if_pos e, if_pos e, bq, bq, bq, u_j (by decide), e, Int.add_zero]
    by_cases o0 : V1 r 4 0 = 0
    · rw [if_pos o0, c_175nx5]
    · rw [if_neg o0, if_neg (by omega), if_pos (by omega), c_175nx5]
  · rw [if_neg e, if_neg e, if_pos h4, bq, bq, bq, u_j (by decide), Int.add_zero]
    by_cases o0 : V1 r 4 0 = 0
    · rw [if_pos o0, c_175px6 e, u_j (by decide)]
    · rw [if_neg o0, if_neg (by omega), if_pos (by omega), c_175px6 e, u_j (by decide)]
/-- behind a fault nothing is read -/
theorem c_part_f (h : V r 8 0 ≠ -1) : ∃ V', f_X5_readPart D V r = (V', 0) ∧ rd_fr r x V V' ∧ V' r 8 0 = V r 8 0 ∧ V' r 7 0 = V r 7 0 := by
  have hs := c_seen_f h
  by_cases h50 : V r 6 0 < 50
  · refine ⟨_, c_partN hs (by decide) h50 (by decide) (by omega), ?_⟩
    rw [c_fail_f (by rw [u_j (by decide), u_j (by decide)]; exact h)]
    exact ⟨rd_fr_t (rd_fr_u (by decide)) (rd_fr_u (by decide)), by show dv_u _ _ _ _ _ _ _ _ = _; rw [u_j (by decide), u_j (by decide)], by show dv_u _ _ _ _ _ _ _ _ = _; rw [u_j (by decide), u_j (by decide)]⟩
  · refine ⟨_, c_part50 hs (by decide) h50, ?_⟩
    rw [c_fail_f h]
    exact ⟨rd_fr_r, rfl, rfl⟩
end QRP
section QRL
variable {V V' V1 V2 W W' W1 : dV} {r x a i t c v o p N lev h : Int} {tk pl cd vl : Int → Int} {D d : Nat} {El : Int → Int → dn → Prop}
-- the reference's parts
theorem m_part_f (h : W a 21 0 ≠ -1) : f_X12_readPart d W a lev = (W, 0) := by
  rw [f_X12_readPart_d]
  unfold f_X12_readPart_B
  rw [dv_bn2 (m_fine0 h), if_neg (fun q => q rfl)]
theorem m_part8 (k : re_cx o cd vl pl W a) (h : W a 21 0 = -1) (hc : cd (W a 19 0) = 191) (hp : pl (W a 19 0) ≠ -1) : f_X12_readPart d W a 8 = (dv_u W a 21 0 (pl (W a 19 0)), 0) := by
  rw [f_X12_readPart_d]
  unfold f_X12_readPart_B f_X12_readPart_37
  rw [dv_bn2 (m_fine1 h), if_pos (by decide), bq, bq, k.1, dv_bn2 q_sign, hc, if_neg (by decide), if_neg (by decide), dv_bn2 (m_faults k h), dv_bn2 (m_fine0 (by rw [u_e]; exact hp)), if_neg (fun q => q rfl)]
theorem m_part91 (k : re_cx o cd vl pl W a) (h : W a 21 0 = -1) (hc : cd (W a 19 0) = 191) (hl : lev ≠ 8) : f_X12_readPart d W a lev = ((f_X12_must (dv_pre (fun _ _ _ => dv_z) f_X12_readSum d (dv_u W a 19 0 (W a 19 0 + 1)) a (lev + 1)).1 a 193).1, 0) := by
  rw [f_X12_readPart_d]
  unfold f_X12_readPart_B f_X12_readPart_37
  rw [dv_bn2 (m_fine1 h), if_pos (by decide), bq, bq, k.1, dv_bn2 q_sign, hc, if_neg (by decide), if_pos hl, dv_bn2 (m_fine1 h), if_pos (by decide), bq, bq, bq, bq, bq2, dv_bn2 q_sign, bq2]
  rfl
theorem m_partN (k : re_cx o cd vl pl W a) (h : W a 21 0 = -1) (h91 : cd (W a 19 0) ≠ 191) (hn : ¬ (cd (W a 19 0) = 50 ∧ vl (W a 19 0) ≤ 1000)) (hw : cd (W a 19 0) < W a 8 0 ∨ W a 9 0 < cd (W a 19 0)) : f_X12_readPart d W a lev = (dv_u W a 21 0 (pl (W a 19 0)), 0) := by
  have e : ∀ rc, f_X12_readPart_95 d rc W (cd (W a 19 0)) a = (dv_u W a 21 0 (pl (W a 19 0)), 0) := by
    intro rc
    unfold f_X12_readPart_95 f_X12_readPart_144
    rw [bq]
    by_cases q : cd (W a 19 0) < W a 8 0
    · rw [if_pos q, dv_bn2 (m_faults k h)]
    · rw [if_neg q, bq, if_pos (by omega), dv_bn2 (m_faults k h)]
  rw [f_X12_readPart_d]
  unfold f_X12_readPart_B
  rw [dv_bn2 (m_fine1 h), if_pos (by decide), bq, bq, k.1, dv_bn2 q_sign, if_pos (show cd (W a 19 0) ≠ 100 + 91 by omega)]
  by_cases q : cd (W a 19 0) = 50
  · rw [if_neg (fun z => z q), bq, bq, k.2.1, if_neg (by omega), e]
  · rw [if_pos q, e]
theorem m_partY (k : re_cx o cd vl pl W a) (h : W a 21 0 = -1) (h91 : cd (W a 19 0) ≠ 191) (hy : (cd (W a 19 0) = 50 ∧ vl (W a 19 0) ≤ 1000) ∨ (cd (W a 19 0) ≠ 50 ∧ W a 8 0 ≤ cd (W a 19 0) ∧ cd (W a 19 0) ≤ W a 9 0)) (hl : f_X12_leaf W a = (W1, 0)) : f_X12_readPart d W a lev = if W1 a 10 0 = 0 then (W1, 0) else if cd (W a 19 0) = 14 ∨ cd (W a 19 0) = 20 then ((f_X12_mustNumber W1 a 0 8).1, 0) else (W1, 0) := by
  have e : ∀ rc, f_X12_readPart_111 d rc W (cd (W a 19 0)) a = if W1 a 10 0 = 0 then (W1, 0) else if cd (W a 19 0) = 14 ∨ cd (W a 19 0) = 20 then ((f_X12_mustNumber W1 a 0 8).1, 0) else (W1, 0) := by
    intro rc
    unfold f_X12_readPart_111 f_X12_readPart_134
    rw [dv_bn2 hl, bq]
    by_cases q : W1 a 10 0 = 0
    · rw [if_pos q, if_pos q]
    · rw [if_neg q, if_neg q]
      by_cases q4 : cd (W a 19 0) = 14
      · rw [if_pos q4, if_pos (Or.inl q4), bq2]
      · rw [if_neg q4]
        by_cases q5 : cd (W a 19 0) = 20
        · rw [if_neg (fun z => z q5), if_pos (Or.inr q5), bq2]
        · rw [if_pos q5, if_neg (by omega)]
  rw [f_X12_readPart_d]
  unfold f_X12_readPart_B
  rw [dv_bn2 (m_fine1 h), if_pos (by decide), bq, bq, k.1, dv_bn2 q_sign, if_pos (show cd (W a 19 0) ≠ 100 + 91 by omega)]
  rcases hy with ⟨q, z⟩ | ⟨q, z1, z2⟩
  · rw [if_neg (fun z => z q), bq, bq, k.2.1, if_pos z, e]
  · unfold f_X12_readPart_95
    rw [if_pos q, bq, if_neg (by omega), bq, if_neg (by omega), e]
-- both at one place
def rd_at (pl : Int → Int) (N : Int) (V W : dV) (r x a : Int) : Prop := W a 19 0 = V r 5 0 ∧ (0 ≤ V r 5 0 ∧ V r 5 0 ≤ N) ∧ W a 20 0 = V r 6 0 ∧ (0 ≤ V r 6 0 ∧ V r 6 0 ≤ 50) ∧ 0 ≤ V x 2 0 ∧ V x 2 0 ≤ pl (V r 5 0)
def rd_out (pl : Int → Int) (N h : Int) (El : Int → Int → dn → Prop) (V W : dV) (r x a : Int) (V' W' : dV) : Prop := rd_fr r x V V' ∧ re_fr a W W' ∧ V' r 7 0 = V r 7 0 ∧ W' a 21 0 = V' r 8 0 ∧ (V' r 8 0 = -1 → V r 8 0 = -1 ∧ rd_at pl N V' W' r x a ∧ V r 5 0 < V' r 5 0 ∧ V x 2 0 < V' x 2 0 ∧ V' x 2 0 - V x 2 0 ≤ pl (V' r 5 0) - pl (V r 5 0) ∧ (∀ z, z < V x 2 0 → V' x 0 z = V x 0 z) ∧ ∃ A, El (V r 5 0) (V' r 5 0) A ∧ K_seg (V' x 0) (V x 2 0) (V' x 2 0) A h)
def rd_ok (o : Int) (tk pl cd vl : Int → Int) (N lev h : Int) (El : Int → Int → dn → Prop) (fC : dV → Int → dR) (fR : dV → Int → Int → dR) : Prop := ∀ (V W : dV) (r x a : Int), rd_cx o tk pl V r x → re_cx o cd vl pl W a → V r 7 0 = lev → W a 21 0 = V r 8 0 → (V r 8 0 = -1 → rd_at pl N V W r x a) → ∃ (V' : dV) (y : Int) (W' : dV) (y' : Int), fC V r = (V', y) ∧ fR W a lev = (W', y') ∧ rd_out pl N h El V W r x a V' W'
/-- both faulty at one place -/
theorem rd_bad (f : rd_fr r x V V') (g : re_fr a W W') (h7 : V' r 7 0 = V r 7 0) (h8 : V' r 8 0 = p) (h21 : W' a 21 0 = p) (hp : p ≠ -1) : rd_out pl N h El V W r x a V' W' := ⟨f, g, h7, by rw [h8, h21], fun q => absurd (h8.symm.trans q) hp⟩
/-- one code more -/
theorem rd_push {j n : Int} {A : dn} (hxr : x ≠ r) (at0 : rd_at pl N V W r x a) (h8 : V r 8 0 = -1) (f : rd_fr r x V V2) (h7 : V2 r 7 0 = V r 7 0) (h28 : V2 r 8 0 = -1) (k0 : ∀ z, V2 x 0 z = V x 0 z) (k2 : V2 x 2 0 = V x 2 0) (g : re_fr a W W') (g21 : W' a 21 0 = -1) (g19 : W' a 19 0 = j) (g20 : W' a 20 0 = n) (h5 : V2 r 5 0 = j) (h6 : V2 r 6 0 = n) (hn : 0 ≤ n ∧ n ≤ 50) (hj : V r 5 0 < j ∧ j ≤ N) (hpl : pl (V r 5 0) + 1 ≤ pl j) (p400 : pl j ≤ 400) (hE : El (V r 5 0) j A) (hc : c ≠ -1) (hK : ∀ (X : Int → Int) (p : Int), X p = c → K_seg X p (p + 1) A h) : rd_out pl N h El V W r x a (f_X10_add V2 x c).1 W' := by
  obtain ⟨a1, a2, a3, a4, a5, a6⟩ := at0
  rw [c_add hc (by rw [k2]; omega)]
  have R : ∀ (m : Nat) (z : Int), dv_u (dv_u V2 x 0 (V2 x 2 0) c) x 2 0 (V2 x 2 0 + 1) r m z = V2 r m z := fun m z => by rw [u_b (Ne.symm hxr), u_b (Ne.symm hxr)]
  refine ⟨rd_fr_t f (rd_fr_t (rd_fr_x (by decide)) (rd_fr_x (by decide))), g, by show dv_u _ _ _ _ _ _ _ _ = _; rw [R, h7], by show _ = dv_u _ _ _ _ _ _ _ _; rw [R, g21, h28], fun _ => ⟨h8, ?_⟩⟩
  show rd_at pl N (dv_u (dv_u V2 x 0 (V2 x 2 0) c) x 2 0 (V2 x 2 0 + 1)) W' r x a ∧ V r 5 0 < dv_u (dv_u V2 x 0 (V2 x 2 0) c) x 2 0 (V2 x 2 0 + 1) r 5 0 ∧ V x 2 0 < dv_u (dv_u V2 x 0 (V2 x 2 0) c) x 2 0 (V2 x 2 0 + 1) x 2 0 ∧ dv_u (dv_u V2 x 0 (V2 x 2 0) c) x 2 0 (V2 x 2 0 + 1) x 2 0 - V x 2 0 ≤ pl (dv_u (dv_u V2 x 0 (V2 x 2 0) c) x 2 0 (V2 x 2 0 + 1) r 5 0) - pl (V r 5 0) ∧ (∀ z, z < V x 2 0 → dv_u (dv_u V2 x 0 (V2 x 2 0) c) x 2 0 (V2 x 2 0 + 1) x 0 z = V x 0 z) ∧ ∃ A, El (V r 5 0) (dv_u (dv_u V2 x 0 (V2 x 2 0) c) x 2 0 (V2 x 2 0 + 1) r 5 0) A ∧ K_seg (dv_u (dv_u V2 x 0 (V2 x 2 0) c) x 2 0 (V2 x 2 0 + 1) x 0) (V x 2 0) (dv_u (dv_u V2 x 0 (V2 x 2 0) c) x 2 0 (V2 x 2 0 + 1) x 2 0) A h
  rw [R, u_e, h5]
  refine ⟨⟨?_, ?_, ?_, ?_, ?_, ?_⟩, hj.1, by omega, by omega, fun z hz => ?_, A, hE, ?_⟩
  · rw [R, h5, g19]
  · rw [R, h5]; omega
  · rw [R, h6, g20]
  · rw [R, h6]; exact hn
  · rw [u_e]; omega
  · rw [R, u_e, h5]; omega
  · rw [u_j (by decide), u_i (by omega), k0]
  · rw [← k2]
    refine hK _ _ ?_
    rw [u_j (by decide), u_e]
end QRL
end
section
section QRQ
variable {V V' V1 V2 W W' W1 : dV} {r x a i t c v o p N lev h : Int} {tk pl cd vl : Int → Int} {D d : Nat} {El : Int → Int → dn → Prop}
theorem rd_w1 : 1 ≤ rd_w t := by unfold rd_w; split <;> (try split) <;> omega
-- tokens
theorem tk_num (T : rd_tk t c v) (h : 400 ≤ t) : c = 50 ∧ (t ≤ 1400 → v = t - 400) ∧ (1400 < t → t = 1401 ∧ 1000 < v) := by unfold rd_tk rd_wp at T; omega
theorem tk_non (T : rd_tk t c v) (h : t < 400) : c ≠ 50 := by unfold rd_tk rd_wp at T; omega
theorem tk_bd (T : rd_tk t c v) : -1 ≤ t ∧ t ≤ 1401 := by unfold rd_tk rd_wp at T; omega
theorem tk_91q (T : rd_tk t c v) (h : t ≠ 91) : c ≠ 191 := by unfold rd_tk rd_wp at T; omega
theorem tk_law (T : rd_tk t c v) (h : t < 400) : (315 ≤ t ∧ t ≤ 322) ↔ (8 ≤ c ∧ c ≤ 15) := by unfold rd_tk rd_wp at T; omega
theorem tk_ord (T : rd_tk t c v) (h : t < 400) : (14 ≤ c ∧ c ≤ 20) ↔ ((323 ≤ t ∧ t ≤ 326) ∨ t = 321 ∨ t = 318 ∨ t = 327) := by unfold rd_tk rd_wp at T; omega
theorem tk_lw (T : rd_tk t c v) (h0 : 315 ≤ t) (h1 : t ≤ 322) : d_lw c = t - 315 := by
  unfold rd_tk rd_wp at T
  have h : t = 315 ∨ t = 316 ∨ t = 317 ∨ t = 318 ∨ t = 319 ∨ t = 320 ∨ t = 321 ∨ t = 322 := by clear T; omega
  rcases h with rfl | rfl | rfl | rfl | rfl | rfl | rfl | rfl
  · have e : c = 8 := by omega
    rw [e]; rfl
  · have e : c = 9 := by omega
    rw [e]; rfl
  · have e : c = 10 := by omega
    rw [e]; rfl
  · have e : c = 14 := by omega
    rw [e]; rfl
  · have e : c = 11 := by omega
    rw [e]; rfl
  · have e : c = 12 := by omega
    rw [e]; rfl
  · have e : c = 15 := by omega
    rw [e]; rfl
  · have e : c = 13 := by omega
    rw [e]; rfl
theorem tk_ow (T : rd_tk t c v) (h : (323 ≤ t ∧ t ≤ 326) ∨ t = 321) : (15 ≤ c ∧ c ≤ 19) ∧ (if t = 321 then 0 else t - 322) = c - 15 := by
  unfold rd_tk rd_wp at T
  split <;> omega
theorem tk_pw (T : rd_tk t c v) (h : t = 318 ∨ t = 327) : (c = 14 ∨ c = 20) ∧ (if t = 318 then (2005 : Int) else 2014) = 2000 + (if c = 14 then 5 else 14) := by
  unfold rd_tk rd_wp at T
  rcases h with rfl | rfl
  · have : c = 14 := by omega
    rw [this]; exact ⟨Or.inl rfl, rfl⟩
  · have : c = 20 := by omega
    rw [this]; exact ⟨Or.inr rfl, rfl⟩
theorem c_failed (cx : rd_cx o tk pl V r x) (f : rd_fr r x V V2) (h7 : V2 r 7 0 = V r 7 0) (h8 : V2 r 8 0 = -1) : rd_fr r x V (f_X5_fail V2 r).1 ∧ (f_X5_fail V2 r).1 r 7 0 = V r 7 0 ∧ (f_X5_fail V2 r).1 r 8 0 = pl (V2 r 5 0) := by
  rw [c_fail (rd_cx_f cx f) h8]
  exact ⟨rd_fr_t f (rd_fr_u (by decide)), by show dv_u _ _ _ _ _ _ _ _ = _; rw [u_j (by decide), h7], by show dv_u _ _ _ _ _ _ _ _ = _; rw [u_e]⟩
/-- both stand unfaulty at one place -/
def rd_in (o : Int) (tk pl cd vl : Int → Int) (N : Int) (V W : dV) (r x a : Int) : Prop := rd_ts tk pl cd vl N ∧ rd_cx o tk pl V r x ∧ re_cx o cd vl pl W a ∧ V r 8 0 = -1 ∧ W a 21 0 = -1 ∧ rd_at pl N V W r x a
/-- both have read a PART -/
def rd_pt (o : Int) (pl cd vl : Int → Int) (N lev : Int) (V W : dV) (r x a : Int) (D d : Nat) : Prop := ∃ (V' : dV) (y : Int) (W' : dV) (y' : Int), f_X5_readPart D V r = (V', y) ∧ f_X12_readPart d W a lev = (W', y') ∧ rd_out pl N 1 (D_leaf o cd vl) V W r x a V' W'
theorem rd_iN (hi : rd_in o tk pl cd vl N V W r x a) (h : tk (V r 5 0) ≠ -1) : V r 5 0 < N ∧ pl (V r 5 0) + rd_w (tk (V r 5 0)) ≤ pl (V r 5 0 + 1) ∧ rd_tk (tk (V r 5 0 + 1)) (cd (V r 5 0 + 1)) (vl (V r 5 0 + 1)) ∧ 0 ≤ pl (V r 5 0 + 1) ∧ pl (V r 5 0 + 1) ≤ 400 := by
  obtain ⟨⟨tN, tE, tA⟩, -, -, -, -, -, a2, -⟩ := hi
  have n : V r 5 0 < N := by
    have : V r 5 0 ≠ N := fun e => h (by rw [e]; exact tE)
    omega
  obtain ⟨S1, S2, S3⟩ := tA (V r 5 0 + 1) (by omega) (by omega)
  exact ⟨n, ((tA (V r 5 0) a2.1 a2.2).2.2 n).2, S1, S2⟩
theorem rd_tT (hi : rd_in o tk pl cd vl N V W r x a) : rd_tk (tk (V r 5 0)) (cd (V r 5 0)) (vl (V r 5 0)) ∧ 0 ≤ pl (V r 5 0) ∧ pl (V r 5 0) ≤ 400 := by
  obtain ⟨⟨tN, tE, tA⟩, -, -, -, -, -, a2, -⟩ := hi
  exact ⟨(tA (V r 5 0) a2.1 a2.2).1, (tA (V r 5 0) a2.1 a2.2).2.1⟩
/-- no PART, where there is room -/
theorem rd_ptN (hi : rd_in o tk pl cd vl N V W r x a) (h91 : tk (V r 5 0) ≠ 91) (h50 : V r 6 0 < 50) (h4 : tk (V r 5 0) < 400) (ho : V r 4 0 = 0 ∧ (tk (V r 5 0) < 315 ∨ 322 < tk (V r 5 0)) ∨ V r 4 0 ≠ 0 ∧ ¬ (323 ≤ tk (V r 5 0) ∧ tk (V r 5 0) ≤ 326) ∧ tk (V r 5 0) ≠ 321 ∧ tk (V r 5 0) ≠ 318 ∧ tk (V r 5 0) ≠ 327) : rd_pt o pl cd vl N lev V W r x a D d := by
  obtain ⟨T1, T2⟩ := rd_tT hi
  obtain ⟨ts, cx, kx, h8, w8, at0⟩ := hi
  have a1 := at0.1
  have hp : pl (V r 5 0) ≠ -1 := by omega
  have c6 := cx.2.2.2.2.2
  have c4 := cx.2.2.2.1
  have k5 := kx.2.2.2.2.1
  have k6 := kx.2.2.2.2.2
  have t5 := tk_non T1 h4
  have tl := tk_law T1 h4
  have to := tk_ord T1 h4
  have hw : cd (V r 5 0) < W a 8 0 ∨ W a 9 0 < cd (V r 5 0) := by
    rcases c6 with e | e
    · have := k5 e; omega
    · have := k6 e; omega
  have e1 := c_partN (D := D) (c_seen cx h8) h91 h50 h4 ho
  have e2 := m_partN (d := d) (lev := lev) kx w8 (by rw [a1]; exact tk_91q T1 h91) (by rw [a1]; omega) (by rw [a1]; exact hw)
  obtain ⟨F1, F2, F3⟩ := c_failed cx (V2 := dv_u (dv_u V r 6 0 (V r 6 0 + 1)) r 5 0 (V r 5 0)) (rd_fr_t (rd_fr_u (by decide)) (rd_fr_u (by decide))) (by rw [u_j (by decide), u_j (by decide)]) (by rw [u_j (by decide), u_j (by decide), h8])
  rw [u_e] at F3
  exact ⟨_, _, _, _, e1, e2, rd_bad F1 (re_fr_u (by decide)) F2 F3 (by rw [u_e, a1]) hp⟩
/-- one PART too many -/
theorem rd_pt50 (hi : rd_in o tk pl cd vl N V W r x a) (h91 : tk (V r 5 0) ≠ 91) (h50 : ¬ V r 6 0 < 50) : rd_pt o pl cd vl N lev V W r x a D d := by
  obtain ⟨T1, T2⟩ := rd_tT hi
  obtain ⟨ts, cx, kx, h8, w8, at0⟩ := hi
  obtain ⟨a1, a2, a3, a4, a5, a6⟩ := at0
  have hp : pl (V r 5 0) ≠ -1 := by omega
  have n91 : cd (W a 19 0) ≠ 191 := by rw [a1]; exact tk_91q T1 h91
  have e1 := c_part50 (D := D) (c_seen cx h8) h91 h50
  obtain ⟨F1, F2, F3⟩ := c_failed cx (V2 := V) rd_fr_r rfl h8
  by_cases hy : (cd (W a 19 0) = 50 ∧ vl (W a 19 0) ≤ 1000) ∨ (cd (W a 19 0) ≠ 50 ∧ W a 8 0 ≤ cd (W a 19 0) ∧ cd (W a 19 0) ≤ W a 9 0)
  · have l0 := m_leaf0 (W := W) (a := a) kx w8 (by omega) (by rw [a1]; exact hp)
    have e2 := m_partY (d := d) (lev := lev) kx w8 n91 hy l0
    have z21 : dv_u (dv_u W a 21 0 (pl (W a 19 0))) a 20 0 51 a 21 0 = pl (V r 5 0) := by rw [u_j (by decide), u_e, a1]
    rw [m_num_f (by rw [z21]; exact hp)] at e2
    have e3 : ∀ (P Q : Prop) [Decidable P] [Decidable Q] (Z : dV), (if P then (Z, (0 : Int)) else if Q then ((Z, (0 : Int)).1, 0) else (Z, 0)) = (Z, 0) := by
      intro P Q _ _ Z; split <;> (try split) <;> rfl
    rw [e3] at e2
    exact ⟨_, _, _, _, e1, e2, rd_bad F1 (re_fr_t (re_fr_u (by decide)) (re_fr_u (by decide))) F2 F3 z21 hp⟩
  · have k5 := kx.2.2.2.2.1
    have k6 := kx.2.2.2.2.2
    have hw : cd (W a 19 0) < W a 8 0 ∨ W a 9 0 < cd (W a 19 0) := by
      rcases cx.2.2.2.2.2 with e | e
      · have := k5 e; omega
      · have := k6 e; omega
    have e2 := m_partN (d := d) (lev := lev) kx w8 n91 (by omega) hw
    exact ⟨_, _, _, _, e1, e2, rd_bad F1 (re_fr_u (by decide)) F2 F3 (by rw [u_e, a1]) hp⟩
/-- the reference's step over a PART -/
theorem m_leafs (kx : re_cx o cd vl pl W a) (w8 : W a 21 0 = -1) (at0 : rd_at pl N V W r x a) (h50 : V r 6 0 < 50) : ∃ WL, f_X12_leaf W a = (WL, 0) ∧ re_fr a W WL ∧ WL a 21 0 = -1 ∧ WL a 19 0 = V r 5 0 + 1 ∧ WL a 20 0 = V r 6 0 + 1 ∧ WL a 10 0 = o := by
  obtain ⟨a1, a2, a3, a4, a5, a6⟩ := at0
  refine ⟨_, m_leaf1 w8 (by omega) (by omega), re_fr_t (re_fr_u (by decide)) (re_fr_u (by decide)), ?_, ?_, ?_, ?_⟩
  · rw [u_j (by decide), u_j (by decide), w8]
  · rw [u_e, a1]
  · rw [u_j (by decide), u_e, a3]
  · rw [u_j (by decide), u_j (by decide), kx.2.2.2.1]
/-- a NUMBER -/
theorem rd_ptM (hi : rd_in o tk pl cd vl N V W r x a) (h50 : V r 6 0 < 50) (hn : 400 ≤ tk (V r 5 0)) : rd_pt o pl cd vl N lev V W r x a D d := by
  obtain ⟨T1, T2⟩ := rd_tT hi
  have hN := rd_iN hi (by omega)
  obtain ⟨ts, cx, kx, h8, w8, at0⟩ := hi
  obtain ⟨a1, a2, a3, a4, a5, a6⟩ := id at0
  have c5 := cx.2.2.2.2.1
  have c3 := cx.2.2.1
  have hp : pl (V r 5 0) ≠ -1 := by omega
  have w1 := @rd_w1 (tk (V r 5 0))
  obtain ⟨cd5, v1, v2⟩ := tk_num T1 hn
  have n91 : cd (W a 19 0) ≠ 191 := by rw [a1]; omega
  have f1 : rd_fr r x V (dv_u V r 6 0 (V r 6 0 + 1)) := rd_fr_u (by decide)
  have cx1 := rd_cx_f cx f1
  by_cases hn1 : tk (V r 5 0) ≤ 1400
  · have vl5 := v1 hn1
    obtain ⟨WL, l1, Lfr, L21, L19, L20, L10⟩ := m_leafs kx w8 at0 h50
    have en := c_num1 (V := dv_u V r 6 0 (V r 6 0 + 1)) (l := 0) (m := 1000) (n := tk (V r 5 0) - 400) cx1 (by rw [u_j (by decide)]; exact h8) (by rw [u_j (by decide)]; omega) (by omega) (by omega) (by omega)
    have z5 : dv_u (dv_u V r 6 0 (V r 6 0 + 1)) r 5 0 (dv_u V r 6 0 (V r 6 0 + 1) r 5 0 + 1) r 5 0 = V r 5 0 + 1 := by rw [u_e, u_j (by decide)]
    have z8 : dv_u (dv_u V r 6 0 (V r 6 0 + 1)) r 5 0 (dv_u V r 6 0 (V r 6 0 + 1) r 5 0 + 1) r 8 0 = -1 := by rw [u_j (by decide), u_j (by decide), h8]
    have z7 : dv_u (dv_u V r 6 0 (V r 6 0 + 1)) r 5 0 (dv_u V r 6 0 (V r 6 0 + 1) r 5 0 + 1) r 7 0 = V r 7 0 := by rw [u_j (by decide), u_j (by decide)]
    have z6 : dv_u (dv_u V r 6 0 (V r 6 0 + 1)) r 5 0 (dv_u V r 6 0 (V r 6 0 + 1) r 5 0 + 1) r 6 0 = V r 6 0 + 1 := by rw [u_j (by decide), u_e]
    have zx : ∀ m z, dv_u (dv_u V r 6 0 (V r 6 0 + 1)) r 5 0 (dv_u V r 6 0 (V r 6 0 + 1) r 5 0 + 1) x m z = V x m z := fun m z => by rw [u_b c5, u_b c5]
    have Fr : rd_fr r x V (dv_u (dv_u V r 6 0 (V r 6 0 + 1)) r 5 0 (dv_u V r 6 0 (V r 6 0 + 1) r 5 0 + 1)) := rd_fr_t f1 (rd_fr_u (by decide))
    generalize dv_u (dv_u V r 6 0 (V r 6 0 + 1)) r 5 0 (dv_u V r 6 0 (V r 6 0 + 1) r 5 0 + 1) = VN at en z5 z8 z7 z6 zx Fr
    have e1 := c_partM (D := D) (c_seen cx h8) h50 hn en
    rw [if_neg (by omega), (rd_cx_f cx Fr).2.2.1] at e1
    have e2 := m_partY (d := d) (lev := lev) kx w8 n91 (Or.inl ⟨by rw [a1]; exact cd5, by rw [a1]; omega⟩) l1
    rw [if_neg (show ¬ (cd (W a 19 0) = 14 ∨ cd (W a 19 0) = 20) by rw [a1]; omega)] at e2
    have e3 : (if WL a 10 0 = 0 then (WL, (0 : Int)) else (WL, 0)) = (WL, 0) := by split <;> rfl
    rw [e3] at e2
    exact ⟨_, _, _, _, e1, e2, rd_push (j := V r 5 0 + 1) (n := V r 6 0 + 1) (A := fun _ => some (vl (V r 5 0))) c5 at0 h8 (rd_fr_t Fr (rd_fr_u (by decide))) (by rw [u_j (by decide), z7]) (by rw [u_j (by decide), z8]) (fun z => by rw [u_b c5, zx]) (by rw [u_b c5, zx]) Lfr L21 L19 L20 (by rw [u_e, z5]) (by rw [u_j (by decide), z6]) (by omega) (by omega) (by omega) (by omega) (Or.inl ⟨cd5, by omega, rfl, rfl⟩) (by omega) (fun X p hX => K_num (by rw [hX, vl5]) (by omega))⟩
  · obtain ⟨t5, v5⟩ := v2 (by omega)
    have e1 := c_partM (D := D) (c_seen cx h8) h50 hn (c_num0 (V := dv_u V r 6 0 (V r 6 0 + 1)) (l := 0) (m := 1000) (n := 1001) cx1 (fun _ => by rw [u_j (by decide)]; omega) (fun _ => by omega))
    rw [if_pos rfl, u_j (by decide)] at e1
    have k5 := kx.2.2.2.2.1
    have k6 := kx.2.2.2.2.2
    have hw : cd (V r 5 0) < W a 8 0 ∨ W a 9 0 < cd (V r 5 0) := by
      rcases cx.2.2.2.2.2 with e | e
      · have := k5 e; omega
      · have := k6 e; omega
    have e2 := m_partN (d := d) (lev := lev) kx w8 n91 (by rw [a1]; omega) (by rw [a1]; exact hw)
    obtain ⟨F1, F2, F3⟩ := c_failed cx (V2 := dv_u (dv_u V r 6 0 (V r 6 0 + 1)) r 5 0 (V r 5 0)) (rd_fr_t f1 (rd_fr_u (by decide))) (by rw [u_j (by decide), u_j (by decide)]) (by rw [u_j (by decide), u_j (by decide), h8])
    rw [u_e] at F3
    exact ⟨_, _, _, _, e1, e2, rd_bad F1 (re_fr_u (by decide)) F2 F3 (by rw [u_e, a1]) hp⟩
/-- the class's step over a word -/
theorem c_word (c5 : x ≠ r) (h8 : V r 8 0 = -1) : ∃ VL, dv_u (dv_u V r 6 0 (V r 6 0 + 1)) r 5 0 (V r 5 0 + 1) = VL ∧ rd_fr r x V VL ∧ VL r 5 0 = V r 5 0 + 1 ∧ VL r 8 0 = -1 ∧ VL r 7 0 = V r 7 0 ∧ VL r 6 0 = V r 6 0 + 1 ∧ ∀ m z, VL x m z = V x m z := by
  refine ⟨_, rfl, rd_fr_t (rd_fr_u (by decide)) (rd_fr_u (by decide)), u_e, ?_, ?_, ?_, fun m z => ?_⟩
  · rw [u_j (by decide), u_j (by decide), h8]
  · rw [u_j (by decide), u_j (by decide)]
  · rw [u_j (by decide), u_e]
  · rw [u_b c5, u_b c5]
theorem rd_ptL (hi : rd_in o tk pl cd vl N V W r x a) (h50 : V r 6 0 < 50) (o0 : o = 0) (hw : 315 ≤ tk (V r 5 0) ∧ tk (V r 5 0) ≤ 322) : rd_pt o pl cd vl N lev V W r x a D d := by
  obtain ⟨T1, T2⟩ := rd_tT hi
  have hN := rd_iN hi (by omega)
  obtain ⟨ts, cx, kx, h8, w8, at0⟩ := hi
  have a1 := at0.1
  have a4 := at0.2.2.2.1
  have c5 := cx.2.2.2.2.1
  have w1 := @rd_w1 (tk (V r 5 0))
  obtain ⟨WL, l1, Lfr, L21, L19, L20, L10⟩ := m_leafs kx w8 at0 h50
  have cw := (tk_law T1 (by omega)).mp hw
  have dl := tk_lw T1 hw.1 hw.2
  have e1 := c_partL (D := D) (c_seen cx h8) h50 (by rw [cx.2.2.2.1, o0]) hw.1 hw.2
  obtain ⟨VL, eL, Fr, z5, z8, z7, z6, zx⟩ := c_word (V := V) c5 h8
  rw [cx.2.2.1, eL] at e1
  have k5 := kx.2.2.2.2.1 o0
  have e2 := m_partY (d := d) (lev := lev) kx w8 (by rw [a1]; exact tk_91q T1 (by omega)) (Or.inr ⟨by rw [a1]; omega, by rw [k5.1, k5.2, a1]; omega⟩) l1
  rw [if_pos (by rw [L10, o0])] at e2
  exact ⟨_, _, _, _, e1, e2, rd_push (j := V r 5 0 + 1) (n := V r 6 0 + 1) (A := fun w => some (w (d_lw (cd (V r 5 0))))) c5 at0 h8 Fr z7 z8 (fun z => zx 0 z) (zx 2 0) Lfr L21 L19 L20 z5 z6 (by omega) (by omega) (by omega) (by omega) (Or.inr (Or.inl ⟨o0, cw, rfl, rfl⟩)) (by omega) (fun X p hX => K_word (by rw [hX, dl]) (by omega) (by omega))⟩
theorem rd_ptO (hi : rd_in o tk pl cd vl N V W r x a) (h50 : V r 6 0 < 50) (o1 : o = 1) (hw : (323 ≤ tk (V r 5 0) ∧ tk (V r 5 0) ≤ 326) ∨ tk (V r 5 0) = 321) : rd_pt o pl cd vl N lev V W r x a D d := by
  obtain ⟨T1, T2⟩ := rd_tT hi
  have hN := rd_iN hi (by omega)
  obtain ⟨ts, cx, kx, h8, w8, at0⟩ := hi
  have a1 := at0.1
  have a4 := at0.2.2.2.1
  have c5 := cx.2.2.2.2.1
  have w1 := @rd_w1 (tk (V r 5 0))
  obtain ⟨WL, l1, Lfr, L21, L19, L20, L10⟩ := m_leafs kx w8 at0 h50
  obtain ⟨cw, dl⟩ := tk_ow T1 hw
  have e1 := c_partO (D := D) (c_seen cx h8) h50 (by rw [cx.2.2.2.1, o1]; decide) hw
  obtain ⟨VL, eL, Fr, z5, z8, z7, z6, zx⟩ := c_word (V := V) c5 h8
  rw [cx.2.2.1, eL, dl] at e1
  have k6 := kx.2.2.2.2.2 o1
  have e2 := m_partY (d := d) (lev := lev) kx w8 (by rw [a1]; exact tk_91q T1 (by omega)) (Or.inr ⟨by rw [a1]; omega, by rw [k6.1, k6.2, a1]; omega⟩) l1
  rw [if_neg (by rw [L10, o1]; decide), if_neg (by rw [a1]; omega)] at e2
  exact ⟨_, _, _, _, e1, e2, rd_push (j := V r 5 0 + 1) (n := V r 6 0 + 1) (A := fun w => some (w (cd (V r 5 0) - 15))) c5 at0 h8 Fr z7 z8 (fun z => zx 0 z) (zx 2 0) Lfr L21 L19 L20 z5 z6 (by omega) (by omega) (by omega) (by omega) (Or.inr (Or.inr (Or.inr ⟨o1, cw, rfl, rfl⟩))) (by omega) (fun X p hX => K_word hX (by omega) (by omega))⟩
theorem rd_ptP (hi : rd_in o tk pl cd vl N V W r x a) (h50 : V r 6 0 < 50) (o1 : o = 1) (hw : tk (V r 5 0) = 318 ∨ tk (V r 5 0) = 327) : rd_pt o pl cd vl N lev V W r x a D d := by
  obtain ⟨T1, T2⟩ := rd_tT hi
  obtain ⟨i1, p1, S1, q1⟩ := rd_iN hi (by omega)
  obtain ⟨ts, cx, kx, h8, w8, at0⟩ := hi
  have a1 := at0.1
  have a4 := at0.2.2.2.1
  have a5 := at0.2.1
  have c5 := cx.2.2.2.2.1
  have w1 := @rd_w1 (tk (V r 5 0))
  obtain ⟨WL, l1, Lfr, L21, L19, L20, L10⟩ := m_leafs kx w8 at0 h50
  obtain ⟨cw, c14⟩ := tk_pw T1 hw
  have e1 := c_partP (D := D) (c_seen cx h8) h50 (by rw [cx.2.2.2.1, o1]; decide) hw
  obtain ⟨VL, eL, Fr, z5, z8, z7, z6, zx⟩ := c_word (V := V) c5 h8
  rw [eL, c_154x2, c14] at e1
  have k6 := kx.2.2.2.2.2 o1
  have e2 := m_partY (d := d) (lev := lev) kx w8 (by rw [a1]; exact tk_91q T1 (by omega)) (Or.inr ⟨by rw [a1]; omega, by rw [k6.1, k6.2, a1]; omega⟩) l1
  rw [if_neg (by rw [L10, o1]; decide), if_pos (by rw [a1]; exact cw)] at e2
  have cx2 := rd_cx_f cx Fr
  have kx2 := re_cx_f kx Lfr
  have gb : (0 : Int) ≤ (if cd (V r 5 0) = 14 then 5 else 14) ∧ (if cd (V r 5 0) = 14 then (5 : Int) else 14) ≤ 14 := by split <;> omega
  have tb := tk_bd S1
  by_cases hv : 400 ≤ tk (V r 5 0 + 1) ∧ tk (V r 5 0 + 1) ≤ 408
  · obtain ⟨cd5, vl5, -⟩ := tk_num S1 hv.1
    have vl5 := vl5 (by omega)
    have i2 : V r 5 0 + 1 < N := by
      have : V r 5 0 + 1 ≠ N := fun e => by rw [e, ts.2.1] at hv; omega
      omega
    have p2 := ((ts.2.2 (V r 5 0 + 1) (by omega) (by omega)).2.2 i2).2
    have q2 := (ts.2.2 (V r 5 0 + 1 + 1) (by omega) (by omega)).2.1
    have w2 := @rd_w1 (tk (V r 5 0 + 1))
    have en := c_num1 (V := VL) (l := 0) (m := 8) (n := tk (V r 5 0 + 1) - 400) cx2 z8 (by rw [z5]; omega) (by omega) (by omega) (by omega)
    rw [en] at e1
    dsimp only at e1
    have g14 : (2000 : Int) + (if cd (V r 5 0) = 14 then 5 else 14) + (tk (V r 5 0 + 1) - 400) = 2000 + ((if cd (V r 5 0) = 14 then 5 else 14) + vl (V r 5 0 + 1)) := by omega
    rw [if_pos (by omega), c_175px4 (by omega), u_j (by decide), cx2.2.2.1, g14] at e1
    have em := m_num1 (W := WL) (l := 0) (m := 8) kx2 L21 (by rw [L19]; exact cd5) (by rw [L19]; omega) (by rw [L19]; omega)
    rw [em] at e2
    have e2p : V r 5 0 + 2 = V r 5 0 + 1 + 1 := by omega
    exact ⟨_, _, _, _, e1, e2, rd_push (j := V r 5 0 + 2) (n := V r 6 0 + 1) (A := fun w => some (w ((if cd (V r 5 0) = 14 then 5 else 14) + vl (V r 5 0 + 1)))) c5 at0 h8 (rd_fr_t Fr (rd_fr_u (by decide))) (by rw [u_j (by decide), z7]) (by rw [u_j (by decide), z8]) (fun z => by rw [u_b c5, zx]) (by rw [u_b c5, zx]) (re_fr_t Lfr (re_fr_u (by decide))) (by show dv_u _ _ _ _ _ _ _ _ = _; rw [u_j (by decide), L21]) (by show dv_u _ _ _ _ _ _ _ _ = _; rw [u_e, L19]; omega) (by show dv_u _ _ _ _ _ _ _ _ = _; rw [u_j (by decide), L20]) (by rw [u_e, z5]; omega) (by rw [u_j (by decide), z6]) (by omega) (by omega) (by rw [e2p]; omega) (by rw [e2p]; omega) (Or.inr (Or.inr (Or.inl ⟨o1, cw, ⟨cd5, by omega, by omega⟩, rfl, rfl⟩))) (by omega) (fun X p hX => K_word hX (by omega) (by omega))⟩
  · have hp1 : pl (V r 5 0 + 1) ≠ -1 := by omega
    have en := c_num0 (V := VL) (l := 0) (m := 8) (n := tk (V r 5 0 + 1) - 400) cx2 (fun _ => ⟨by rw [z5]; omega, by omega⟩) (fun _ => by omega)
    rw [en] at e1
    dsimp only at e1
    rw [if_neg (fun q => q rfl), c_175nx4] at e1
    have hbad : cd (V r 5 0 + 1) ≠ 50 ∨ vl (V r 5 0 + 1) < 0 ∨ 8 < vl (V r 5 0 + 1) := by
      by_cases h4 : tk (V r 5 0 + 1) < 400
      · exact Or.inl (tk_non S1 h4)
      · have := tk_num S1 (by omega); omega
    have em := m_num0 (W := WL) (l := 0) (m := 8) kx2 L21 (by rw [L19]; exact hbad) (by rw [L19]; exact hp1)
    rw [em, L19] at e2
    obtain ⟨F1, F2, F3⟩ := c_failed cx (V2 := VL) Fr z7 z8
    rw [z5] at F3
    exact ⟨_, _, _, _, e1, e2, rd_bad F1 (re_fr_t Lfr (re_fr_u (by decide))) F2 F3 (by show dv_u _ _ _ _ _ _ _ _ = _; rw [u_e]) hp1⟩
theorem rd_leaf (hi : rd_in o tk pl cd vl N V W r x a) (h91 : tk (V r 5 0) ≠ 91) : rd_pt o pl cd vl N lev V W r x a D d := by
  have c4 := hi.2.1.2.2.2.1
  by_cases h50 : V r 6 0 < 50
  · by_cases hn : 400 ≤ tk (V r 5 0)
    · exact rd_ptM hi h50 hn
    · rcases hi.2.1.2.2.2.2.2 with o0 | o1
      · by_cases hw : 315 ≤ tk (V r 5 0) ∧ tk (V r 5 0) ≤ 322
        · exact rd_ptL hi h50 o0 hw
        · exact rd_ptN hi h91 h50 (by omega) (Or.inl ⟨by omega, by omega⟩)
      · by_cases hw : (323 ≤ tk (V r 5 0) ∧ tk (V r 5 0) ≤ 326) ∨ tk (V r 5 0) = 321
        · exact rd_ptO hi h50 o1 hw
        · by_cases hw2 : tk (V r 5 0) = 318 ∨ tk (V r 5 0) = 327
          · exact rd_ptP hi h50 o1 hw2
          · exact rd_ptN hi h91 h50 (by omega) (Or.inr ⟨by omega, by omega, by omega, by omega, by omega⟩)
  · exact rd_pt50 hi h91 h50
end QRQ
section QRB
variable {V V' V1 V2 W W' W1 : dV} {r x a i t c v o p N lev h h' : Int} {tk pl cd vl : Int → Int} {D d : Nat} {El El' : Int → Int → dn → Prop}
theorem K_seg_c {X X' : Int → Int} {p q h : Int} {A : dn} (hA : K_seg X p q A h) (k : ∀ z, p ≤ z → z < q → X' z = X z) : K_seg X' p q A h := by
  obtain ⟨h1, h2, f⟩ := hA
  refine ⟨h1, h2, fun V r x to t w cx hw => f V r x to t w ?_ hw⟩
  obtain ⟨g1, g2⟩ := cx
  exact ⟨fun i i0 i1 => by rw [g1 i i0 i1, k i i0 i1], g2⟩
theorem rd_out_m (ho : rd_out pl N h El V W r x a V' W') (hE : ∀ i j A, El i j A → El' i j A) (hh : h ≤ h') : rd_out pl N h' El' V W r x a V' W' := by
  obtain ⟨h1, h2, h3, h4, h5⟩ := ho
  refine ⟨h1, h2, h3, h4, fun q => ?_⟩
  obtain ⟨g1, g2, g3, g4, g5, g6, A, g7, g8⟩ := h5 q
  exact ⟨g1, g2, g3, g4, g5, g6, A, hE _ _ _ g7, K_seg_m g8 hh⟩
theorem c_open : f_X5_openBracket V r = if V r 7 0 < 8 then (dv_u (dv_u V r 7 0 (V r 7 0 + 1)) r 5 0 (V r 5 0 + 1), 1) else (V, 0) := by
  unfold f_X5_openBracket
  rw [bq]
  by_cases e : V r 7 0 < 8
  · rw [if_pos e, if_pos e, bq, bq, bq, bq, bq, bq, u_j (by decide)]
  · rw [if_neg e, if_neg e]
theorem c_part8 (cx : rd_cx o tk pl V r x) (h8 : V r 8 0 = -1) (h91 : tk (V r 5 0) = 91) (h7 : ¬ V r 7 0 < 8) : f_X5_readPart D V r = (dv_u V r 8 0 (pl (V r 5 0)), 0) := by
  have hs := c_seen cx h8
  rw [h91] at hs
  rw [f_X5_readPart_d]
  unfold f_X5_readPart_B
  rw [dv_bn2 hs, if_neg (by decide), c_open, if_neg h7, dv_bn2 rfl, if_pos rfl, dv_bn2 (c_take0 cx (fun _ => by rw [h91]; decide)), if_neg (by decide), dv_bn2 (c_fail cx h8)]
theorem c_part91 (cx : rd_cx o tk pl V r x) (h8 : V r 8 0 = -1) (h91 : tk (V r 5 0) = 91) (h7 : V r 7 0 < 8) {y y3 : Int} {V3 : dV} (hr : f_X5_readSum D (dv_u (dv_u V r 7 0 (V r 7 0 + 1)) r 5 0 (V r 5 0 + 1)) r = (V2, y)) (ht : f_X5_take (dv_u V2 r 7 0 (V2 r 7 0 - 1)) r 93 = (V3, y3)) : f_X5_readPart (D + 1) V r = if y3 ≠ 0 then (V3, 0) else ((f_X5_fail V3 r).1, 0) := by
  have hs := c_seen cx h8
  rw [h91] at hs
  have hr' : dv_pre (fun _ _ => dv_z) f_X5_readSum (D + 1) (dv_u (dv_u V r 7 0 (V r 7 0 + 1)) r 5 0 (V r 5 0 + 1)) r = (V2, y) := hr
  rw [f_X5_readPart_d]
  unfold f_X5_readPart_B
  rw [dv_bn2 hs, if_neg (by decide), c_open, if_pos h7, dv_bn2 rfl, if_neg (by decide), dv_bn2 hr', bq, bq, bq, dv_bn2 ht]
  by_cases e : y3 ≠ 0
  · rw [if_pos e, if_pos e]
  · rw [if_neg e, if_neg e, bq2]
/-- a PART is read the same way -/
theorem rd_part (ts : rd_ts tk pl cd vl N) (ih : ∀ d', d = d' + 1 → ∀ D', d' ≤ D' → rd_ok o tk pl cd vl N (8 - (d' : Int)) (2 * (d' : Int) + 3) (D_sum o cd vl d') (f_X5_readSum D') (f_X12_readSum d')) (hD : d ≤ D) : rd_ok o tk pl cd vl N (8 - (d : Int)) (2 * (d : Int) + 1) (D_part o cd vl d) (f_X5_readPart D) (f_X12_readPart d) := by
  intro V W r x a cx kx h7 hf hat
  by_cases h8 : V r 8 0 = -1
  · have w8 : W a 21 0 = -1 := hf.trans h8
    have at0 := hat h8
    have hi : rd_in o tk pl cd vl N V W r x a := ⟨ts, cx, kx, h8, w8, at0⟩
    by_cases h91 : tk (V r 5 0) = 91
    · obtain ⟨T1, T2⟩ := rd_tT hi
      have a1 := at0.1
      have a4 := at0.2.2.2.1
      have a2 := at0.2.1
      have c5 := cx.2.2.2.2.1
      have c191 : cd (W a 19 0) = 191 := by rw [a1]; exact (rd_sg T1 (b := 91) (by decide) (by decide)).mp h91
      obtain ⟨i1, p1, S1, q1⟩ := rd_iN hi (by omega)
      have w1 := @rd_w1 (tk (V r 5 0))
      cases d with
      | zero =>
        have e1 := c_part8 (D := D) cx h8 h91 (by omega)
        have e2 := m_part8 (d := 0) kx w8 c191 (by rw [a1]; omega)
        exact ⟨_, _, _, _, e1, e2, rd_bad (rd_fr_u (by decide)) (re_fr_u (by decide)) (by rw [u_j (by decide)]) u_e (by rw [u_e, a1]) (by omega)⟩
      | succ d =>
        obtain ⟨D, rfl⟩ : ∃ D', D = D' + 1 := ⟨D - 1, by omega⟩
        have hl : (8 : Int) - ((d + 1 : Nat) : Int) + 1 = 8 - (d : Int) := by omega
        have hl8 : (8 : Int) - ((d + 1 : Nat) : Int) ≠ 8 := by omega
        have F1 : rd_fr r x V (dv_u (dv_u V r 7 0 (V r 7 0 + 1)) r 5 0 (V r 5 0 + 1)) := rd_fr_t (rd_fr_u (by decide)) (rd_fr_u (by decide))
        have G1 : re_fr a W (dv_u W a 19 0 (W a 19 0 + 1)) := re_fr_u (by decide)
        have z5 : dv_u (dv_u V r 7 0 (V r 7 0 + 1)) r 5 0 (V r 5 0 + 1) r 5 0 = V r 5 0 + 1 := u_e
        have z6 : dv_u (dv_u V r 7 0 (V r 7 0 + 1)) r 5 0 (V r 5 0 + 1) r 6 0 = V r 6 0 := by rw [u_j (by decide), u_j (by decide)]
        have z7 : dv_u (dv_u V r 7 0 (V r 7 0 + 1)) r 5 0 (V r 5 0 + 1) r 7 0 = V r 7 0 + 1 := by rw [u_j (by decide), u_e]
        have z8 : dv_u (dv_u V r 7 0 (V r 7 0 + 1)) r 5 0 (V r 5 0 + 1) r 8 0 = -1 := by rw [u_j (by decide), u_j (by decide), h8]
        have zx : ∀ m z, dv_u (dv_u V r 7 0 (V r 7 0 + 1)) r 5 0 (V r 5 0 + 1) x m z = V x m z := fun m z => by rw [u_b c5, u_b c5]
        have y19 : dv_u W a 19 0 (W a 19 0 + 1) a 19 0 = V r 5 0 + 1 := by rw [u_e, a1]
        have y20 : dv_u W a 19 0 (W a 19 0 + 1) a 20 0 = V r 6 0 := by rw [u_j (by decide), at0.2.2.1]
        have y21 : dv_u W a 19 0 (W a 19 0 + 1) a 21 0 = -1 := by rw [u_j (by decide), w8]
        have m91 := m_part91 (d := d + 1) (lev := 8 - ((d + 1 : Nat) : Int)) kx w8 c191 hl8
        have C91 := fun (V2 V3 : dV) (y y3 : Int) => c_part91 (V2 := V2) (V3 := V3) (y := y) (y3 := y3) (D := D) cx h8 h91 (by omega)
        generalize dv_u (dv_u V r 7 0 (V r 7 0 + 1)) r 5 0 (V r 5 0 + 1) = V1 at F1 z5 z6 z7 z8 zx C91
        generalize dv_u W a 19 0 (W a 19 0 + 1) = W1 at G1 y19 y20 y21 m91
        have at1 : rd_at pl N V1 W1 r x a := ⟨by rw [y19, z5], by rw [z5]; omega, by rw [y20, z6], by rw [z6]; omega, by rw [zx]; exact at0.2.2.2.2.1, by rw [zx, z5]; have := at0.2.2.2.2.2; omega⟩
        obtain ⟨V2, y, W2, y', e1, e2, o1, o2, o3, o4, o5⟩ := ih d rfl D (by omega) V1 W1 r x a (rd_cx_f cx F1) (re_cx_f kx G1) (by rw [z7]; omega) (by rw [y21, z8]) (fun _ => at1)
        have m2 : dv_pre (fun _ _ _ => dv_z) f_X12_readSum (d + 1) W1 a (8 - ((d + 1 : Nat) : Int) + 1) = (W2, y') := by rw [hl]; exact e2
        rw [m2] at m91
        dsimp only at m91
        have F2 := rd_fr_t F1 o1
        have G2 := re_fr_t G1 o2
        have F3 : rd_fr r x V (dv_u V2 r 7 0 (V2 r 7 0 - 1)) := rd_fr_t F2 (rd_fr_u (by decide))
        have x7 : dv_u V2 r 7 0 (V2 r 7 0 - 1) r 7 0 = V r 7 0 := by rw [u_e, o3, z7]; omega
        have x8 : dv_u V2 r 7 0 (V2 r 7 0 - 1) r 8 0 = V2 r 8 0 := by rw [u_j (by decide)]
        have x5 : dv_u V2 r 7 0 (V2 r 7 0 - 1) r 5 0 = V2 r 5 0 := by rw [u_j (by decide)]
        have x6 : dv_u V2 r 7 0 (V2 r 7 0 - 1) r 6 0 = V2 r 6 0 := by rw [u_j (by decide)]
        have xx : ∀ m z, dv_u V2 r 7 0 (V2 r 7 0 - 1) x m z = V2 x m z := fun m z => by rw [u_b c5]
        have C92 := fun (V3 : dV) (y3 : Int) => C91 V2 V3 y y3 e1
        generalize dv_u V2 r 7 0 (V2 r 7 0 - 1) = V3 at F3 x7 x8 x5 x6 xx C92
        have cx3 := rd_cx_f cx F3
        have kx2 := re_cx_f kx G2
        by_cases g8 : V2 r 8 0 = -1
        · obtain ⟨p8, at2, p5, px, pp, pz, A, pA, pK⟩ := o5 g8
          have w28 : W2 a 21 0 = -1 := o4.trans g8
          obtain ⟨U1, U2⟩ := rd_tT (⟨ts, rd_cx_f cx F2, kx2, g8, w28, at2⟩ : rd_in o tk pl cd vl N V2 W2 r x a)
          by_cases h93 : tk (V2 r 5 0) = 93
          · obtain ⟨j1, r1, R1, s1⟩ := rd_iN (⟨ts, rd_cx_f cx F2, kx2, g8, w28, at2⟩ : rd_in o tk pl cd vl N V2 W2 r x a) (by omega)
            have v1 := @rd_w1 (tk (V2 r 5 0))
            have e3 := C92 _ _ (c_take1 cx3 (x8.trans g8) (by rw [x5]; exact h93))
            rw [if_pos (by decide), x5] at e3
            have c193 : cd (V2 r 5 0) = 193 := (rd_sg U1 (b := 93) (by decide) (by decide)).mp h93
            rw [m_must1 kx2 w28 (by rw [at2.1]; exact c193)] at m91
            dsimp only at m91
            refine ⟨_, _, _, _, e3, m91, rd_fr_t F3 (rd_fr_u (by decide)), re_fr_t G2 (re_fr_u (by decide)), by rw [u_j (by decide), x7], by rw [u_j (by decide), u_j (by decide), x8, o4], fun _ => ⟨h8, ⟨by rw [u_e, u_e, at2.1], by rw [u_e]; have := at2.2.1; omega, by rw [u_j (by decide), u_j (by decide), x6, at2.2.2.1], by rw [u_j (by decide), x6]; exact at2.2.2.2.1, by rw [u_b c5, xx]; exact at2.2.2.2.2.1, ?_⟩, ?_, ?_, ?_, fun z hz => ?_, A, ?_, ?_⟩⟩
            · rw [u_b c5, xx, u_e]; have := at2.2.2.2.2.2; omega
            · rw [u_e]; rw [z5] at p5; omega
            · rw [u_b c5, xx]; rw [zx] at px; omega
            · rw [u_b c5, xx, u_e]; rw [zx, z5] at pp; omega
            · rw [u_b c5, xx, pz z (by rw [zx]; exact hz), zx]
            · rw [u_e]
              refine Or.inr ⟨by rw [← a1]; exact c191, ?_, ?_⟩
              · rw [show V2 r 5 0 + 1 - 1 = V2 r 5 0 by omega, ← z5]; exact pA
              · rw [show V2 r 5 0 + 1 - 1 = V2 r 5 0 by omega]; exact c193
            · rw [u_b c5, xx]
              rw [zx] at pK
              exact K_seg_c (K_seg_m pK (by omega)) (fun z _ _ => by rw [u_b c5, xx])
          · have e3 := C92 _ _ (c_take0 cx3 (fun _ => by rw [x5]; exact h93))
            rw [if_neg (fun q => q rfl), c_fail cx3 (x8.trans g8), x5] at e3
            have c193 : cd (W2 a 19 0) ≠ 193 := by rw [at2.1]; exact fun q => h93 ((rd_sg U1 (b := 93) (by decide) (by decide)).mpr q)
            rw [m_must0 kx2 w28 c193, at2.1] at m91
            exact ⟨_, _, _, _, e3, m91, rd_bad (rd_fr_t F3 (rd_fr_u (by decide))) (re_fr_t G2 (re_fr_u (by decide))) (by show dv_u _ _ _ _ _ _ _ _ = _; rw [u_j (by decide), x7]) (by show dv_u _ _ _ _ _ _ _ _ = _; rw [u_e]) (by show dv_u _ _ _ _ _ _ _ _ = _; rw [u_e]) (by omega)⟩
        · have e3 := C92 _ _ (c_take0 cx3 (fun q => absurd (x8.symm.trans q) g8))
          rw [if_neg (fun q => q rfl), c_fail_f (by rw [x8]; exact g8)] at e3
          rw [m_must_f kx2 (by rw [o4]; exact g8)] at m91
          exact ⟨_, _, _, _, e3, m91, rd_bad F3 G2 x7 x8 o4 g8⟩
    · obtain ⟨V', y, W', y', e1, e2, ho⟩ := rd_leaf (lev := 8 - (d : Int)) (D := D) (d := d) hi h91
      refine ⟨V', y, W', y', e1, e2, rd_out_m ho (fun i j A hE => ?_) (by omega)⟩
      cases d with
      | zero => exact hE
      | succ d => exact Or.inl hE
  · obtain ⟨V', e1, f1, g8, g7⟩ := c_part_f (D := D) h8
    exact ⟨V', 0, W, 0, e1, m_part_f (by rw [hf]; exact h8), rd_bad f1 re_fr_r g7 g8 hf h8⟩
end QRB
section QRS
variable {V V' V1 V2 W W' W1 : dV} {r x a i t c v o p N lev h h' oc cnt : Int} {tk pl cd vl : Int → Int} {D d e : Nat} {P El El' : Int → Int → dn → Prop} {fC : dV → Int → dR} {fR : dV → Int → Int → dR}
theorem c_codeOf : f_X5_codeOf V t = (if t = 43 then 3000 else if t = 45 then 3001 else if t = 42 then 3002 else if t = 47 then 3003 else if t = 37 then 3004 else -1, ()) := by
  unfold f_X5_codeOf
  have h : t = 37 ∨ t = 42 ∨ t = 43 ∨ t = 45 ∨ t = 47 ∨ (t ≠ 37 ∧ t ≠ 42 ∧ t ≠ 43 ∧ t ≠ 45 ∧ t ≠ 47) := by omega
  rcases h with rfl | rfl | rfl | rfl | rfl | ⟨h1, h2, h3, h4, h5⟩
  · rfl
  · rfl
  · rfl
  · rfl
  · rfl
  · rw [if_neg h1, if_neg h2, if_neg h3, if_neg h4, if_neg h5, if_neg h1, if_neg h2, if_neg h3, if_neg h4, if_neg h5]
    split
    · rfl
    · split
      · rfl
      · split
        · rfl
        · split
          · rfl
          · split
            · rfl
            · split <;> rfl
-- the class's loop
theorem c_8_end (hs : f_X5_seenToken V r = (t, ())) (ht : t ≠ 43 ∧ t ≠ 45 ∧ t ≠ 42 ∧ t ≠ 47 ∧ t ≠ 37) : dv_lp (f_X5_readSum_8b D fC) (V, r, oc, cnt) = ((f_X10_add V (V r 3 0) oc).1, 0) := by
  obtain ⟨h1, h2, h3, h4, h5⟩ := ht
  refine dv_lp_e ?_
  rw [f_X5_readSum_8e]
  unfold f_X5_readSum_8c f_X5_readSum_90
  have q : f_X5_codeOf V t = (-1, ()) := by rw [c_codeOf, if_neg h1, if_neg h2, if_neg h3, if_neg h4, if_neg h5]
  by_cases k : 400 ≤ cnt
  · rw [if_pos k, bq, bq2]
  · rw [if_neg k, dv_bn2 hs, dv_bn2 q, if_neg (fun z => z rfl), bq, bq2]
theorem c_8_mul (hs : f_X5_seenToken V r = (t, ())) (hk : cnt < 400) (ht : t = 42 ∧ c = 142 ∨ t = 47 ∧ c = 147 ∨ t = 37 ∧ c = 137) {y : Int} (hr : fC (dv_u V r 5 0 (V r 5 0 + 1)) r = (V2, y)) : dv_lp (f_X5_readSum_8b D fC) (V, r, oc, cnt) = dv_lp (f_X5_readSum_8b D fC) ((f_X10_add V2 (V2 r 3 0) (k_sg c)).1, r, oc, cnt + 1) := by
  refine dv_lp_s ?_
  rw [f_X5_readSum_8e]
  unfold f_X5_readSum_8c f_X5_readSum_84
  have q : f_X5_codeOf V t = (k_sg c, ()) := by
    rw [c_codeOf]
    rcases ht with ⟨rfl, rfl⟩ | ⟨rfl, rfl⟩ | ⟨rfl, rfl⟩ <;> rfl
  have q1 : k_sg c ≠ -1 ∧ k_sg c ≠ 3000 ∧ k_sg c ≠ 3001 := by
    rcases ht with ⟨rfl, rfl⟩ | ⟨rfl, rfl⟩ | ⟨rfl, rfl⟩ <;> decide
  rw [if_neg (by omega), dv_bn2 hs, dv_bn2 q, if_pos q1.1, bq, bq, bq, if_neg q1.2.1, if_pos q1.2.2, dv_bn2 hr, bq, bq2, bq]
theorem c_8_add (cx : rd_cx o tk pl V r x) (hs : f_X5_seenToken V r = (t, ())) (hk : cnt < 400) (ht : t = 43 ∧ c = 143 ∨ t = 45 ∧ c = 145) {y : Int} (ha : f_X10_add (dv_u V r 5 0 (V r 5 0 + 1)) x oc = (V1, 0)) (hr : fC V1 r = (V2, y)) : dv_lp (f_X5_readSum_8b D fC) (V, r, oc, cnt) = dv_lp (f_X5_readSum_8b D fC) (V2, r, k_sg c, cnt + 1) := by
  refine dv_lp_s ?_
  rw [f_X5_readSum_8e]
  unfold f_X5_readSum_8c f_X5_readSum_84
  have q : f_X5_codeOf V t = (k_sg c, ()) := by
    rw [c_codeOf]
    rcases ht with ⟨rfl, rfl⟩ | ⟨rfl, rfl⟩ <;> rfl
  have c3 : dv_u V r 5 0 (V r 5 0 + 1) r 3 0 = x := by rw [u_j (by decide)]; exact cx.2.2.1
  rw [if_neg (by omega), dv_bn2 hs, dv_bn2 q]
  rcases ht with ⟨rfl, rfl⟩ | ⟨rfl, rfl⟩
  · rw [if_pos (by decide), bq, bq, bq, if_pos (by decide), bq, c3, dv_bn2 ha, dv_bn2 hr, bq]
  · rw [if_pos (by decide), bq, bq, bq, if_neg (by decide), if_neg (by decide), bq, c3, dv_bn2 ha, dv_bn2 hr, bq]
-- the reference's loops
theorem m_t_end (k : re_cx o cd vl pl W a) (hc : W a 21 0 = -1 → ¬ d_mul (cd (W a 19 0))) : dv_lp (f_X12_readTerm_5b e fR) (W, a, lev) = (W, 0) := by
  unfold d_mul at hc
  refine dv_lp_e ?_
  rw [f_X12_readTerm_5e]
  unfold f_X12_readTerm_5c
  rw [dv_bn2 q_sign, dv_bn2 (m_take0 k (fun q => by have := hc q; omega)), if_neg (fun q => q rfl), dv_bn2 q_sign, dv_bn2 (m_take0 k (fun q => by have := hc q; omega)), if_neg (fun q => q rfl), dv_bn2 q_sign, dv_bn2 (m_take0 k (fun q => by have := hc q; omega)), if_pos rfl]
theorem m_t_mul (k : re_cx o cd vl pl W a) (w8 : W a 21 0 = -1) (hc : d_mul (cd (W a 19 0))) {y : Int} (hr : fR (dv_u W a 19 0 (W a 19 0 + 1)) a lev = (W1, y)) : dv_lp (f_X12_readTerm_5b e fR) (W, a, lev) = dv_lp (f_X12_readTerm_5b e fR) (W1, a, lev) := by
  refine dv_lp_s ?_
  rw [f_X12_readTerm_5e]
  unfold f_X12_readTerm_5c
  rw [dv_bn2 q_sign]
  rcases hc with hc | hc | hc
  · rw [dv_bn2 (m_take1 k w8 (by omega)), if_pos (by decide), dv_bn2 hr]
  · rw [dv_bn2 (m_take0 k (fun _ => by omega)), if_neg (fun q => q rfl), dv_bn2 q_sign, dv_bn2 (m_take1 k w8 (by omega)), if_pos (by decide), dv_bn2 hr]
  · rw [dv_bn2 (m_take0 k (fun _ => by omega)), if_neg (fun q => q rfl), dv_bn2 q_sign, dv_bn2 (m_take0 k (fun _ => by omega)), if_neg (fun q => q rfl), dv_bn2 q_sign, dv_bn2 (m_take1 k w8 (by omega)), if_neg (by decide), dv_bn2 hr]
theorem m_s_end (k : re_cx o cd vl pl W a) (hc : W a 21 0 = -1 → ¬ d_add (cd (W a 19 0))) : dv_lp (f_X12_readSum_5b e fR) (W, a, lev) = (W, 0) := by
  unfold d_add at hc
  refine dv_lp_e ?_
  rw [f_X12_readSum_5e]
  unfold f_X12_readSum_5c
  rw [dv_bn2 q_sign, dv_bn2 (m_take0 k (fun q => by have := hc q; omega)), if_neg (fun q => q rfl), dv_bn2 q_sign, dv_bn2 (m_take0 k (fun q => by have := hc q; omega)), if_pos rfl]
theorem m_s_add (k : re_cx o cd vl pl W a) (w8 : W a 21 0 = -1) (hc : d_add (cd (W a 19 0))) {y : Int} (hr : fR (dv_u W a 19 0 (W a 19 0 + 1)) a lev = (W1, y)) : dv_lp (f_X12_readSum_5b e fR) (W, a, lev) = dv_lp (f_X12_readSum_5b e fR) (W1, a, lev) := by
  refine dv_lp_s ?_
  rw [f_X12_readSum_5e]
  unfold f_X12_readSum_5c
  rw [dv_bn2 q_sign]
  rcases hc with hc | hc
  · rw [dv_bn2 (m_take1 k w8 (by omega)), if_pos (by decide), dv_bn2 hr]
  · rw [dv_bn2 (m_take0 k (fun _ => by omega)), if_neg (fun q => q rfl), dv_bn2 q_sign, dv_bn2 (m_take1 k w8 (by omega)), if_neg (by decide), dv_bn2 hr]
-- what has been read so far
def rd_pd (d : Nat) (X : Int → Int) (p0 q oc : Int) (cb : dn → dn) (T : dn) : Prop := (oc = -1 ∧ (cb = fun T' => T') ∧ K_seg X p0 q T (2 * (d : Int) + 2)) ∨ ∃ (c m : Int) (S : dn), d_add c ∧ oc = k_sg c ∧ (cb = fun T' => d_op c S T') ∧ K_seg X p0 m S (2 * (d : Int) + 3) ∧ d_in S ∧ K_seg X m q T (2 * (d : Int) + 2)
theorem rd_pd_mul {X X' : Int → Int} {p0 q q1 oc c : Int} {cb : dn → dn} {T B : dn} (h : rd_pd d X p0 q oc cb T) (hX : ∀ z, p0 ≤ z → z < q → X' z = X z) (hB : K_seg X' q q1 B (2 * (d : Int) + 1)) (hc : X' q1 = k_sg c) (hm : d_mul c) (iT : d_in T) (iB : d_in B) : rd_pd d X' p0 (q1 + 1) oc cb (d_op c T B) := by
  rcases h with ⟨h1, h2, h3⟩ | ⟨c0, m, S, h1, h2, h3, h4, h5, h6⟩
  · exact Or.inl ⟨h1, h2, K_op (K_seg_c h3 hX) hB hc (Or.inl hm) iT iB (by omega) (by omega)⟩
  · refine Or.inr ⟨c0, m, S, h1, h2, h3, K_seg_c h4 (fun z z0 z1 => hX z z0 (by have := h6.1; omega)), h5, K_op (K_seg_c h6 (fun z z0 z1 => hX z (by have := h4.1; omega) z1)) hB hc (Or.inl hm) iT iB (by omega) (by omega)⟩
theorem rd_close {p0 : Int} {cb : dn → dn} {T : dn} (c5 : x ≠ r) (h : rd_pd d (V x 0) p0 (V x 2 0) oc cb T) (iT : d_in T) (hq : V x 2 0 + (if oc = -1 then 0 else 1) ≤ 400) : ∃ V', f_X10_add V x oc = (V', 0) ∧ rd_fr r x V V' ∧ (∀ j z, V' r j z = V r j z) ∧ V' x 2 0 = V x 2 0 + (if oc = -1 then 0 else 1) ∧ (∀ z, z < V x 2 0 → V' x 0 z = V x 0 z) ∧ K_seg (V' x 0) p0 (V' x 2 0) (cb T) (2 * (d : Int) + 3) ∧ d_in (cb T) := by
  rcases h with ⟨h1, h2, h3⟩ | ⟨c0, m, S, h1, h2, h3, h4, h5, h6⟩
  · rw [h1, h2, if_pos rfl, Int.add_zero]
    exact ⟨V, c_add_n, rd_fr_r, fun _ _ => rfl, rfl, fun _ _ => rfl, K_seg_m h3 (by omega), iT⟩
  · have ho : oc ≠ -1 := by have := k_sg_in c0; omega
    rw [if_neg ho] at hq ⊢
    refine ⟨_, c_add ho (by omega), rd_fr_t (rd_fr_x (by decide)) (rd_fr_x (by decide)), fun j z => by rw [u_b (Ne.symm c5), u_b (Ne.symm c5)], u_e, fun z hz => by rw [u_j (by decide), u_i (by omega)], ?_, ?_⟩
    · rw [u_e, h3]
      have hX : ∀ z, z < V x 2 0 → dv_u (dv_u V x 0 (V x 2 0) oc) x 2 0 (V x 2 0 + 1) x 0 z = V x 0 z := fun z hz => by rw [u_j (by decide), u_i (by omega)]
      refine K_op (K_seg_c h4 (fun z _ z1 => hX z (by have := h6.1; omega))) (K_seg_c h6 (fun z _ z1 => hX z z1)) ?_ (Or.inr h1) h5 iT (by omega) (by omega)
      rw [u_j (by decide), u_e, h2]
    · rw [h3]; exact d_op_in
def rd_g (cd : Int → Int) (P : Int → Int → dn → Prop) (i0 : Int) (cb : dn → dn) (T : dn) (i : Int) : Prop := ∀ (n : Nat) (j : Int) (T' : dn), d_ch d_mul cd P d_op n i T j T' → ∀ (n' : Nat) (k : Int) (R : dn), d_ch d_add cd (D_termF cd P) d_op n' j (cb T') k R → D_sumF cd P i0 k R
theorem rd_g_start {i0 : Int} {T : dn} (h : P i0 i T) : rd_g cd P i0 (fun T' => T') T i := fun n j T' h1 n' k R h2 => ⟨j, T', n', ⟨i, T, n, h, h1⟩, h2⟩
theorem rd_g_mul {i0 m : Int} {cb : dn → dn} {T B : dn} (h : rd_g cd P i0 cb T i) (hm : d_mul (cd i)) (hB : P (i + 1) m B) : rd_g cd P i0 cb (d_op (cd i) T B) m := fun n j T' h1 => h (n + 1) j T' ⟨hm, m, B, hB, h1⟩
theorem rd_g_add {i0 m : Int} {cb : dn → dn} {T B : dn} (h : rd_g cd P i0 cb T i) (hm : ¬ d_mul (cd i)) (ha : d_add (cd i)) (hB : P (i + 1) m B) : rd_g cd P i0 (fun T' => d_op (cd i) (cb T) T') B m := fun n j T' h1 n' k R h2 => h 0 i T ⟨rfl, rfl, hm⟩ (n' + 1) k R ⟨ha, j, T', ⟨m, B, n, hB, h1⟩, h2⟩
theorem rd_g_end {i0 : Int} {cb : dn → dn} {T : dn} (h : rd_g cd P i0 cb T i) (hm : ¬ d_mul (cd i)) (ha : ¬ d_add (cd i)) : D_sumF cd P i0 i (cb T) := h 0 i T ⟨rfl, rfl, hm⟩ 0 i (cb T) ⟨rfl, rfl, ha⟩
end QRS
section QRU
variable {V V' V1 V2 W W' W1 : dV} {r x a i t c v o p N lev h h' oc cnt : Int} {tk pl cd vl : Int → Int} {D d e : Nat} {P El El' : Int → Int → dn → Prop} {fC : dV → Int → dR} {fR : dV → Int → Int → dR}
theorem tk_mul (T : rd_tk t c v) : d_mul c ↔ (t = 42 ∧ c = 142 ∨ t = 47 ∧ c = 147 ∨ t = 37 ∧ c = 137) := by unfold rd_tk rd_wp at T; unfold d_mul; omega
theorem tk_add (T : rd_tk t c v) : d_add c ↔ (t = 43 ∧ c = 143 ∨ t = 45 ∧ c = 145) := by unfold rd_tk rd_wp at T; unfold d_add; omega
theorem tk_end (T : rd_tk t c v) (hm : ¬ d_mul c) (ha : ¬ d_add c) : t ≠ 43 ∧ t ≠ 45 ∧ t ≠ 42 ∧ t ≠ 47 ∧ t ≠ 37 := by
  unfold rd_tk rd_wp at T
  unfold d_mul at hm
  unfold d_add at ha
  omega
/-- behind a fault the loops end -/
theorem rd_sumF (cx : rd_cx o tk pl V r x) (kx : re_cx o cd vl pl W a) (h8 : V r 8 0 ≠ -1) (w8 : W a 21 0 ≠ -1) : ∃ V', dv_lp (f_X5_readSum_8b D fC) (V, r, oc, cnt) = (V', 0) ∧ dv_lp (f_X12_readTerm_5b e fR) (W, a, lev) = (W, 0) ∧ dv_lp (f_X12_readSum_5b e (f_X12_readTerm_B e fR)) (W, a, lev) = (W, 0) ∧ rd_fr r x V V' ∧ ∀ j z, V' r j z = V r j z := by
  obtain ⟨V', e1, f1, g1⟩ := c_add_f (V := V) (x := x) (c := oc) (r := r)
  refine ⟨V', ?_, m_t_end kx (fun q => absurd q w8), m_s_end kx (fun q => absurd q w8), f1, fun j z => g1 j z cx.2.2.2.2.1⟩
  rw [c_8_end (c_seen_f h8) (by decide), cx.2.2.1, e1]
theorem rd_sumL (ts : rd_ts tk pl cd vl N) (hP : rd_ok o tk pl cd vl N lev (2 * (d : Int) + 1) P fC fR) (hin : ∀ i j A, P i j A → d_in A) (n : Nat) : ∀ (V W : dV) (r x a oc cnt p0 i0 : Int) (cb : dn → dn) (T : dn), rd_in o tk pl cd vl N V W r x a → V r 7 0 = lev → N - V r 5 0 ≤ n → cnt < V r 5 0 → V x 2 0 + (if oc = -1 then 0 else 1) ≤ pl (V r 5 0) → p0 < V x 2 0 → rd_pd d (V x 0) p0 (V x 2 0) oc cb T → d_in T → rd_g cd P i0 cb T (V r 5 0) → ∃ (V' : dV) (y : Int) (W1 : dV) (y1 : Int) (W' : dV) (y' : Int), dv_lp (f_X5_readSum_8b D fC) (V, r, oc, cnt) = (V', y) ∧ dv_lp (f_X12_readTerm_5b e fR) (W, a, lev) = (W1, y1) ∧ dv_lp (f_X12_readSum_5b e (f_X12_readTerm_B e fR)) (W1, a, lev) = (W', y') ∧ rd_fr r x V V' ∧ re_fr a W W' ∧ V' r 7 0 = V r 7 0 ∧ W' a 21 0 = V' r 8 0 ∧ (V' r 8 0 = -1 → rd_at pl N V' W' r x a ∧ V r 5 0 ≤ V' r 5 0 ∧ V x 2 0 ≤ V' x 2 0 ∧ V' x 2 0 - V x 2 0 ≤ pl (V' r 5 0) - pl (V r 5 0) + (if oc = -1 then 0 else 1) ∧ (∀ z, z < p0 → V' x 0 z = V x 0 z) ∧ ∃ A, D_sumF cd P i0 (V' r 5 0) A ∧ K_seg (V' x 0) p0 (V' x 2 0) A (2 * (d : Int) + 3)) := by
  induction n using Nat.strongRecOn with
  | ind n ih =>
  intro V W r x a oc cnt p0 i0 cb T hi h7 hn hk hs hp pd iT g
  obtain ⟨T1, T2⟩ := rd_tT hi
  have hiN := rd_iN hi
  obtain ⟨-, cx, kx, h8, w8, at0⟩ := id hi
  obtain ⟨a1, a2, a3, a4, a5, a6⟩ := id at0
  have c5 := cx.2.2.2.2.1
  have w1 := @rd_w1 (tk (V r 5 0))
  have seen := c_seen cx h8
  have tN := ts.1
  by_cases hm : d_mul (cd (V r 5 0))
  · -- times, by, the rest
    have ht := (tk_mul T1).mp hm
    obtain ⟨i1, p1, S1, q1⟩ := hiN (by omega)
    have F1 : rd_fr r x V (dv_u V r 5 0 (V r 5 0 + 1)) := rd_fr_u (by decide)
    have G1 : re_fr a W (dv_u W a 19 0 (W a 19 0 + 1)) := re_fr_u (by decide)
    have z5 : dv_u V r 5 0 (V r 5 0 + 1) r 5 0 = V r 5 0 + 1 := u_e
    have z6 : dv_u V r 5 0 (V r 5 0 + 1) r 6 0 = V r 6 0 := u_j (by decide)
    have z7 : dv_u V r 5 0 (V r 5 0 + 1) r 7 0 = V r 7 0 := u_j (by decide)
    have z8 : dv_u V r 5 0 (V r 5 0 + 1) r 8 0 = -1 := by rw [u_j (by decide), h8]
    have zx : ∀ m z, dv_u V r 5 0 (V r 5 0 + 1) x m z = V x m z := fun m z => u_b c5
    have y19 : dv_u W a 19 0 (W a 19 0 + 1) a 19 0 = V r 5 0 + 1 := by rw [u_e, a1]
    have y20 : dv_u W a 19 0 (W a 19 0 + 1) a 20 0 = V r 6 0 := by rw [u_j (by decide), a3]
    have y21 : dv_u W a 19 0 (W a 19 0 + 1) a 21 0 = -1 := by rw [u_j (by decide), w8]
    have C1 := fun (V2 : dV) (y : Int) => c_8_mul (V2 := V2) (D := D) (fC := fC) (oc := oc) (cnt := cnt) (c := cd (V r 5 0)) (y := y) seen (by omega) ht
    have R1 := fun (W2 : dV) (y : Int) => m_t_mul (W1 := W2) (e := e) (fR := fR) (lev := lev) (y := y) kx w8 (by rw [a1]; exact hm)
    generalize dv_u V r 5 0 (V r 5 0 + 1) = V1 at F1 z5 z6 z7 z8 zx C1
    generalize dv_u W a 19 0 (W a 19 0 + 1) = W1 at G1 y19 y20 y21 R1
    have at1 : rd_at pl N V1 W1 r x a := ⟨by rw [y19, z5], by rw [z5]; omega, by rw [y20, z6], by rw [z6]; omega, by rw [zx]; exact a5, by rw [zx, z5]; omega⟩
    obtain ⟨V2, y, W2, y', e1, e2, o1, o2, o3, o4, o5⟩ := hP V1 W1 r x a (rd_cx_f cx F1) (re_cx_f kx G1) (by rw [z7, h7]) (by rw [y21, z8]) (fun _ => at1)
    have C2 := C1 V2 y e1
    have R2 := R1 W2 y' e2
    have F2 := rd_fr_t F1 o1
    have G2 := re_fr_t G1 o2
    have cx2 := rd_cx_f cx F2
    have kx2 := re_cx_f kx G2
    rw [cx2.2.2.1] at C2
    by_cases g8 : V2 r 8 0 = -1
    · obtain ⟨p8, at2, p5, px, pp, pz, B, pB, pK⟩ := o5 g8
      obtain ⟨b1, b2, b3, b4, b5, b6⟩ := id at2
      have T3 := (ts.2.2 (V2 r 5 0) b2.1 b2.2).2.1
      rw [z5] at p5 pp pB
      rw [zx] at px pp pz pK
      have sz : V2 x 2 0 < 400 := by split at hs <;> omega
      have ic := (k_sg_in (cd (V r 5 0))).1
      have c1 : k_sg (cd (V r 5 0)) ≠ -1 := by omega
      rw [c_add c1 sz] at C2
      dsimp only at C2
      have F3 : rd_fr r x V (dv_u (dv_u V2 x 0 (V2 x 2 0) (k_sg (cd (V r 5 0)))) x 2 0 (V2 x 2 0 + 1)) := rd_fr_t F2 (rd_fr_t (rd_fr_x (by decide)) (rd_fr_x (by decide)))
      have v3r : ∀ m z, dv_u (dv_u V2 x 0 (V2 x 2 0) (k_sg (cd (V r 5 0)))) x 2 0 (V2 x 2 0 + 1) r m z = V2 r m z := fun m z => by rw [u_b (Ne.symm c5), u_b (Ne.symm c5)]
      have v32 : dv_u (dv_u V2 x 0 (V2 x 2 0) (k_sg (cd (V r 5 0)))) x 2 0 (V2 x 2 0 + 1) x 2 0 = V2 x 2 0 + 1 := u_e
      have v3c : dv_u (dv_u V2 x 0 (V2 x 2 0) (k_sg (cd (V r 5 0)))) x 2 0 (V2 x 2 0 + 1) x 0 (V2 x 2 0) = k_sg (cd (V r 5 0)) := by rw [u_j (by decide), u_e]
      have v3z : ∀ z, z < V2 x 2 0 → dv_u (dv_u V2 x 0 (V2 x 2 0) (k_sg (cd (V r 5 0)))) x 2 0 (V2 x 2 0 + 1) x 0 z = V2 x 0 z := fun z hz => by rw [u_j (by decide), u_i (by omega)]
      generalize dv_u (dv_u V2 x 0 (V2 x 2 0) (k_sg (cd (V r 5 0)))) x 2 0 (V2 x 2 0 + 1) = V3 at C2 F3 v3r v32 v3c v3z
      have at3 : rd_at pl N V3 W2 r x a := ⟨by rw [v3r]; exact b1, by rw [v3r]; exact b2, by rw [v3r]; exact b3, by rw [v3r]; exact b4, by rw [v32]; omega, by rw [v32, v3r]; split at hs <;> omega⟩
      have pd3 : rd_pd d (V3 x 0) p0 (V3 x 2 0) oc cb (d_op (cd (V r 5 0)) T B) := by
        rw [v32]
        exact rd_pd_mul pd (fun z _ z1 => by rw [v3z z (by omega), pz z z1, zx]) (K_seg_c pK (fun z _ z1 => v3z z z1)) v3c hm iT (hin _ _ _ pB)
      obtain ⟨V', u, Wt, ut, W', u', L1, L2, L3, L4, L5, L6, L7, L8⟩ := ih (n - 1) (by omega) V3 W2 r x a oc (cnt + 1) p0 i0 cb (d_op (cd (V r 5 0)) T B) ⟨ts, rd_cx_f cx F3, kx2, by rw [v3r]; exact g8, o4.trans g8, at3⟩ (by rw [v3r, o3, z7, h7]) (by rw [v3r]; omega) (by rw [v3r]; omega) (by rw [v32, v3r]; omega) (by rw [v32]; omega) pd3 d_op_in (by rw [v3r]; exact rd_g_mul g hm pB)
      refine ⟨V', u, Wt, ut, W', u', C2.trans L1, R2.trans L2, L3, rd_fr_t F3 L4, re_fr_t G2 L5, by rw [L6, v3r, o3, z7], L7, fun q => ?_⟩
      obtain ⟨M1, M2, M3, M4, M5, M6⟩ := L8 q
      rw [v3r] at M2 M4
      rw [v32] at M3 M4
      exact ⟨M1, by omega, by omega, by omega, fun z hz => by rw [M5 z hz, v3z z (by omega), pz z (by omega), zx], M6⟩
    · obtain ⟨V3, e3, f3, v3r⟩ := c_add_f (V := V2) (x := x) (c := k_sg (cd (V r 5 0))) (r := r)
      have v3r : ∀ j z, V3 r j z = V2 r j z := fun j z => v3r j z c5
      rw [e3] at C2
      dsimp only at C2
      obtain ⟨V', L1, L2, L3, L4, L5⟩ := rd_sumF (D := D) (e := e) (fC := fC) (fR := fR) (lev := lev) (oc := oc) (cnt := cnt + 1) (rd_cx_f cx2 f3) kx2 (by rw [v3r]; exact g8) (by rw [o4]; exact g8)
      refine ⟨V', 0, W2, 0, W2, 0, C2.trans L1, R2.trans L2, L3, rd_fr_t F2 (rd_fr_t f3 L4), G2, by rw [L5, v3r, o3, z7], by rw [L5, v3r, o4], fun q => ?_⟩
      rw [L5, v3r] at q
      exact absurd q g8
  · by_cases ha : d_add (cd (V r 5 0))
    · -- and, less
      have ht := (tk_add T1).mp ha
      obtain ⟨i1, p1, S1, q1⟩ := hiN (by omega)
      have F1 : rd_fr r x V (dv_u V r 5 0 (V r 5 0 + 1)) := rd_fr_u (by decide)
      have G1 : re_fr a W (dv_u W a 19 0 (W a 19 0 + 1)) := re_fr_u (by decide)
      have z5 : dv_u V r 5 0 (V r 5 0 + 1) r 5 0 = V r 5 0 + 1 := u_e
      have z6 : dv_u V r 5 0 (V r 5 0 + 1) r 6 0 = V r 6 0 := u_j (by decide)
      have z7 : dv_u V r 5 0 (V r 5 0 + 1) r 7 0 = V r 7 0 := u_j (by decide)
      have z8 : dv_u V r 5 0 (V r 5 0 + 1) r 8 0 = -1 := by rw [u_j (by decide), h8]
      have zx : ∀ m z, dv_u V r 5 0 (V r 5 0 + 1) x m z = V x m z := fun m z => u_b c5
      have zxf : dv_u V r 5 0 (V r 5 0 + 1) x 0 = V x 0 := funext (fun z => zx 0 z)
      have y19 : dv_u W a 19 0 (W a 19 0 + 1) a 19 0 = V r 5 0 + 1 := by rw [u_e, a1]
      have y20 : dv_u W a 19 0 (W a 19 0 + 1) a 20 0 = V r 6 0 := by rw [u_j (by decide), a3]
      have y21 : dv_u W a 19 0 (W a 19 0 + 1) a 21 0 = -1 := by rw [u_j (by decide), w8]
      have C1 := fun (Vc V2 : dV) (y : Int) => c_8_add (V1 := Vc) (V2 := V2) (D := D) (fC := fC) (oc := oc) (cnt := cnt) (c := cd (V r 5 0)) (y := y) cx seen (by omega) ht
      have R1 := fun (W2 : dV) (y : Int) => m_s_add (W1 := W2) (e := e) (fR := f_X12_readTerm_B e fR) (lev := lev) (y := y) kx w8 (by rw [a1]; exact ha)
      have Re := m_t_end (W := W) (e := e) (fR := fR) (lev := lev) kx (fun _ => by rw [a1]; exact hm)
      generalize dv_u V r 5 0 (V r 5 0 + 1) = V1 at F1 z5 z6 z7 z8 zx zxf C1
      generalize dv_u W a 19 0 (W a 19 0 + 1) = W1 at G1 y19 y20 y21 R1
      obtain ⟨Vc, ec, fc, vcr, vc2, vcz, vcK, vci⟩ := rd_close (V := V1) (r := r) (d := d) (p0 := p0) (cb := cb) (T := T) (oc := oc) c5 (by rw [zx, zxf]; exact pd) iT (by rw [zx]; omega)
      rw [zx] at vc2 vcz
      have atc : rd_at pl N Vc W1 r x a := ⟨by rw [y19, vcr, z5], by rw [vcr, z5]; omega, by rw [y20, vcr, z6], by rw [vcr, z6]; omega, by rw [vc2]; split <;> omega, by rw [vc2, vcr, z5]; omega⟩
      have Fc := rd_fr_t F1 fc
      obtain ⟨V2, y, W2, y', e1, e2, o1, o2, o3, o4, o5⟩ := hP Vc W1 r x a (rd_cx_f cx Fc) (re_cx_f kx G1) (by rw [vcr, z7, h7]) (by rw [y21, vcr, z8]) (fun _ => atc)
      have C2 := C1 Vc V2 y ec e1
      have F2 := rd_fr_t Fc o1
      have G2 := re_fr_t G1 o2
      have cx2 := rd_cx_f cx F2
      have kx2 := re_cx_f kx G2
      have RT : f_X12_readTerm_B e fR W1 a lev = dv_lp (f_X12_readTerm_5b e fR) (W2, a, lev) := by
        unfold f_X12_readTerm_B
        rw [dv_bn2 e2]
      by_cases g8 : V2 r 8 0 = -1
      · obtain ⟨p8, at2, p5, px, pp, pz, B, pB, pK⟩ := o5 g8
        obtain ⟨b1, b2, b3, b4, b5, b6⟩ := id at2
        have T3 := (ts.2.2 (V2 r 5 0) b2.1 b2.2).2.1
        rw [vcr, z5] at p5 pp pB
        have ic := (k_sg_in (cd (V r 5 0))).1
        have c1 : ¬ k_sg (cd (V r 5 0)) = -1 := by omega
        have pd3 : rd_pd d (V2 x 0) p0 (V2 x 2 0) (k_sg (cd (V r 5 0))) (fun T' => d_op (cd (V r 5 0)) (cb T) T') B := Or.inr ⟨cd (V r 5 0), Vc x 2 0, cb T, ha, rfl, rfl, K_seg_c vcK (fun z _ z1 => pz z z1), vci, K_seg_m pK (by omega)⟩
        obtain ⟨V', u, Wt, ut, W', u', L1, L2, L3, L4, L5, L6, L7, L8⟩ := ih (n - 1) (by omega) V2 W2 r x a (k_sg (cd (V r 5 0))) (cnt + 1) p0 i0 (fun T' => d_op (cd (V r 5 0)) (cb T) T') B ⟨ts, cx2, kx2, g8, o4.trans g8, at2⟩ (by rw [o3, vcr, z7, h7]) (by omega) (by omega) (by rw [if_neg c1]; omega) (by split at vc2 <;> omega) pd3 (hin _ _ _ pB) (rd_g_add g hm ha pB)
        rw [if_neg c1] at L8
        refine ⟨V', u, W, 0, W', u', C2.trans L1, Re, (R1 Wt ut (RT.trans L2)).trans L3, rd_fr_t F2 L4, re_fr_t G2 L5, by rw [L6, o3, vcr, z7], L7, fun q => ?_⟩
        obtain ⟨M1, M2, M3, M4, M5, M6⟩ := L8 q
        refine ⟨M1, by omega, by split at vc2 <;> omega, by omega, fun z hz => ?_, M6⟩
        rw [M5 z hz, pz z (by split at vc2 <;> omega), vcz z (by omega), zx]
      · obtain ⟨V', L1, L2, L3, L4, L5⟩ := rd_sumF (D := D) (e := e) (fC := fC) (fR := fR) (lev := lev) (oc := k_sg (cd (V r 5 0))) (cnt := cnt + 1) cx2 kx2 g8 (by rw [o4]; exact g8)
        refine ⟨V', 0, W, 0, W2, 0, C2.trans L1, Re, (R1 W2 0 (RT.trans L2)).trans L3, rd_fr_t F2 L4, G2, by rw [L5, o3, vcr, z7], by rw [L5, o4], fun q => ?_⟩
        rw [L5] at q
        exact absurd q g8
    · -- the end of the SUM
      have e8 := c_8_end (D := D) (fC := fC) (oc := oc) (cnt := cnt) seen (tk_end T1 hm ha)
      obtain ⟨V', ec, fc, vcr, vc2, vcz, vcK, vci⟩ := rd_close (V := V) (r := r) (d := d) (p0 := p0) (cb := cb) (T := T) (oc := oc) c5 pd iT (by omega)
      rw [cx.2.2.1, ec] at e8
      refine ⟨V', 0, W, 0, W, 0, e8, m_t_end kx (fun _ => by rw [a1]; exact hm), m_s_end kx (fun _ => by rw [a1]; exact ha), fc, re_fr_r, vcr 7 0, by rw [vcr, h8, w8], fun _ => ?_⟩
      rw [vcr]
      exact ⟨⟨by rw [vcr]; exact a1, by rw [vcr]; exact a2, by rw [vcr]; exact a3, by rw [vcr]; exact a4, by rw [vc2]; split <;> omega, by rw [vc2, vcr]; exact hs⟩, by omega, by rw [vc2]; split <;> omega, by rw [vc2]; omega, fun z hz => vcz z (by omega), cb T, rd_g_end g hm ha, vcK⟩
theorem rd_sumB (ts : rd_ts tk pl cd vl N) (hP : rd_ok o tk pl cd vl N lev (2 * (d : Int) + 1) P fC fR) (hin : ∀ i j A, P i j A → d_in A) : rd_ok o tk pl cd vl N lev (2 * (d : Int) + 3) (D_sumF cd P) (f_X5_readSum_B D fC) (f_X12_readSum_B e (f_X12_readTerm_B e fR)) := by
  intro V W r x a cx kx h7 hf hat
  obtain ⟨V1, y, W1, y', e1, e2, o1, o2, o3, o4, o5⟩ := hP V W r x a cx kx h7 hf hat
  have cx1 := rd_cx_f cx o1
  have kx1 := re_cx_f kx o2
  have E1 : f_X5_readSum_B D fC V r = dv_lp (f_X5_readSum_8b D fC) (V1, r, -1, 0) := by
    unfold f_X5_readSum_B
    rw [dv_bn2 e1]
  have E2 : f_X12_readTerm_B e fR W a lev = dv_lp (f_X12_readTerm_5b e fR) (W1, a, lev) := by
    unfold f_X12_readTerm_B
    rw [dv_bn2 e2]
  have E3 : ∀ {W2 : dV} {y2 : Int}, dv_lp (f_X12_readTerm_5b e fR) (W1, a, lev) = (W2, y2) → f_X12_readSum_B e (f_X12_readTerm_B e fR) W a lev = dv_lp (f_X12_readSum_5b e (f_X12_readTerm_B e fR)) (W2, a, lev) := by
    intro W2 y2 q
    unfold f_X12_readSum_B
    rw [dv_bn2 (E2.trans q)]
  by_cases g8 : V1 r 8 0 = -1
  · obtain ⟨p8, at1, p5, px, pp, pz, A, pA, pK⟩ := o5 g8
    have a2 := (hat p8).2.1
    obtain ⟨V', u, Wt, ut, W', u', L1, L2, L3, L4, L5, L6, L7, L8⟩ := rd_sumL (D := D) (e := e) ts hP hin (N - V1 r 5 0).toNat V1 W1 r x a (-1) 0 (V x 2 0) (V r 5 0) (fun T' => T') A ⟨ts, cx1, kx1, g8, o4.trans g8, at1⟩ (by rw [o3, h7]) (by omega) (by omega) (by rw [if_pos rfl]; have := at1.2.2.2.2.2; omega) px (Or.inl ⟨rfl, rfl, K_seg_m pK (by omega)⟩) (hin _ _ _ pA) (rd_g_start pA)
    rw [if_pos rfl] at L8
    refine ⟨V', u, W', u', E1.trans L1, (E3 L2).trans L3, rd_fr_t o1 L4, re_fr_t o2 L5, by rw [L6, o3], L7, fun q => ?_⟩
    obtain ⟨M1, M2, M3, M4, M5, M6⟩ := L8 q
    exact ⟨p8, M1, by omega, by omega, by omega, fun z hz => by rw [M5 z hz, pz z hz], M6⟩
  · obtain ⟨V', L1, L2, L3, L4, L5⟩ := rd_sumF (D := D) (e := e) (fC := fC) (fR := fR) (lev := lev) (oc := -1) (cnt := 0) cx1 kx1 g8 (by rw [o4]; exact g8)
    refine ⟨V', 0, W1, 0, E1.trans L1, (E3 L2).trans L3, rd_fr_t o1 L4, o2, by rw [L5, o3], by rw [L5, o4], fun q => ?_⟩
    rw [L5] at q
    exact absurd q g8
/-- a SUM is read the same way -/
theorem rd_sum (ts : rd_ts tk pl cd vl N) (d : Nat) : ∀ D, d ≤ D → rd_ok o tk pl cd vl N (8 - (d : Int)) (2 * (d : Int) + 3) (D_sum o cd vl d) (f_X5_readSum D) (f_X12_readSum d) := by
  induction d with
  | zero =>
    intro D hD V W r x a cx kx h7 hf hat
    have hP := rd_part (d := 0) (D := D) (o := o) ts (fun d' q => by omega) hD
    rw [f_X5_readSum_d, f_X12_readSum_d]
    exact rd_sumB ts hP (fun _ _ _ => D_part_in) V W r x a cx kx h7 hf hat
  | succ d ih =>
    intro D hD V W r x a cx kx h7 hf hat
    have hP := rd_part (d := d + 1) (D := D) (o := o) ts (fun d' q D' hD' => by cases q; exact ih D' hD') hD
    rw [f_X5_readSum_d, f_X12_readSum_d]
    exact rd_sumB ts hP (fun _ _ _ => D_part_in) V W r x a cx kx h7 hf hat
end QRU
section QRN
variable {V V' V1 V2 V3 V4 W W' W1 : dV} {r x a i t c v o p N lev h h' u cnt : Int} {tk pl cd vl : Int → Int} {D d e : Nat} {P El El' : Int → Int → dn → Prop} {fC rC : dV → Int → dR} {fR rR : dV → Int → Int → dR}
/-- behind a fault a SUM is nothing -/
theorem c_sum_f (cx : rd_cx o tk pl V r x) (h : V r 8 0 ≠ -1) : ∃ V', f_X5_readSum D V r = (V', 0) ∧ rd_fr r x V V' ∧ V' r 8 0 = V r 8 0 ∧ V' r 7 0 = V r 7 0 := by
  obtain ⟨V1, e1, f1, g8, g7⟩ := c_part_f (D := D) h
  have cx1 := rd_cx_f cx f1
  obtain ⟨V2, e2, f2, k2⟩ := c_add_f (V := V1) (x := x) (c := -1) (r := r)
  refine ⟨V2, ?_, rd_fr_t f1 f2, by rw [k2 8 0 cx.2.2.2.2.1, g8], by rw [k2 7 0 cx.2.2.2.2.1, g7]⟩
  rw [f_X5_readSum_d]
  unfold f_X5_readSum_B
  rw [dv_bn2 e1, c_8_end (c_seen_f (by rw [g8]; exact h)) (by decide), cx1.2.2.1, e2]
theorem m_sum_f (k : re_cx o cd vl pl W a) (h : W a 21 0 ≠ -1) : f_X12_readSum d W a lev = (W, 0) := by
  rw [f_X12_readSum_d]
  unfold f_X12_readSum_B
  have e : f_X12_readTerm d W a lev = (W, 0) := by
    rw [f_X12_readTerm_d]
    unfold f_X12_readTerm_B
    rw [dv_bn2 (m_part_f h), m_t_end k (fun q => absurd q h)]
  rw [dv_bn2 e, m_s_end k (fun q => absurd q h)]
-- the class's test behind its "not"s
theorem c_156 : f_X5_readPlain_156 D rC V r u = Sum.inr ((if u = 0 then V else (f_X10_add V (V r 3 0) 3008).1), 0) := by
  unfold f_X5_readPlain_156
  by_cases e : u = 0
  · rw [if_pos e, if_pos e]
  · rw [if_neg e, if_neg e, bq, bq2]
theorem c_133n : f_X5_readPlain_133 D rC V r u (-1) = Sum.inr ((f_X5_fail V r).1, 0) := by
  unfold f_X5_readPlain_133
  rw [if_neg (fun q => q rfl), bq2]
theorem c_133p (hc : c ≠ -1) {y : Int} (hs : f_X5_readSum 8 V r = (V1, y)) : f_X5_readPlain_133 D rC V r u c = f_X5_readPlain_156 D rC (f_X10_add V1 (V1 r 3 0) c).1 r u := by
  unfold f_X5_readPlain_133
  rw [if_pos hc, dv_bn2 hs, bq, bq2]
theorem c_37s (cx : rd_cx o tk pl V r x) (hs : f_X5_seenToken V r = (t, ())) (h40 : t ≠ 40) {y : Int} (hr : f_X5_readSum 8 V r = (V1, y)) (f1 : rd_fr r x V V1) (hn : V1 r 8 0 = -1 → tk (V1 r 5 0) ≠ 60 ∧ tk (V1 r 5 0) ≠ 62 ∧ tk (V1 r 5 0) ≠ 61) : f_X5_readPlain_37 D rC V r u = Sum.inr ((f_X5_fail V1 r).1, 0) := by
  have cx1 := rd_cx_f cx f1
  unfold f_X5_readPlain_37
  rw [dv_bn2 hs, if_pos h40, dv_bn2 hr, dv_bn2 (c_take0 cx1 (fun q => (hn q).1)), if_pos rfl, dv_bn2 (c_take0 cx1 (fun q => (hn q).2.1)), if_pos rfl, dv_bn2 (c_take0 cx1 (fun q => (hn q).2.2)), if_pos rfl, c_133n]
theorem c_37c (cx : rd_cx o tk pl V r x) (hs : f_X5_seenToken V r = (t, ())) (h40 : t ≠ 40) {y : Int} (hr : f_X5_readSum 8 V r = (V1, y)) (f1 : rd_fr r x V V1) (h8 : V1 r 8 0 = -1) (hn : tk (V1 r 5 0) = 60 ∧ c = 160 ∨ tk (V1 r 5 0) = 62 ∧ c = 162 ∨ tk (V1 r 5 0) = 61 ∧ c = 161) : f_X5_readPlain_37 D rC V r u = f_X5_readPlain_133 D rC (dv_u V1 r 5 0 (V1 r 5 0 + 1)) r u (k_sg c) := by
  have cx1 := rd_cx_f cx f1
  unfold f_X5_readPlain_37
  rw [dv_bn2 hs, if_pos h40, dv_bn2 hr]
  rcases hn with ⟨e, rfl⟩ | ⟨e, rfl⟩ | ⟨e, rfl⟩
  · rw [dv_bn2 (c_take1 cx1 h8 e), if_neg (by decide)]; rfl
  · rw [dv_bn2 (c_take0 cx1 (fun _ => by omega)), if_pos rfl, dv_bn2 (c_take1 cx1 h8 e), if_neg (by decide)]; rfl
  · rw [dv_bn2 (c_take0 cx1 (fun _ => by omega)), if_pos rfl, dv_bn2 (c_take0 cx1 (fun _ => by omega)), if_pos rfl, dv_bn2 (c_take1 cx1 h8 e), if_neg (by decide)]; rfl
theorem c_37b (hs : f_X5_seenToken V r = (40, ())) (h7 : V r 7 0 < 8) {y y3 : Int} (hr : rC (dv_u (dv_u V r 7 0 (V r 7 0 + 1)) r 5 0 (V r 5 0 + 1)) r = (V2, y)) (ht : f_X5_take (dv_u V2 r 7 0 (V2 r 7 0 - 1)) r 41 = (V3, y3)) : f_X5_readPlain_37 D rC V r u = f_X5_readPlain_156 D rC (if y3 ≠ 0 then V3 else (f_X5_fail V3 r).1) r u := by
  unfold f_X5_readPlain_37
  rw [dv_bn2 hs, if_neg (by decide), c_open, if_pos h7, dv_bn2 rfl, if_neg (by decide), dv_bn2 hr, bq, bq, bq, dv_bn2 ht]
  by_cases e : y3 ≠ 0
  · rw [if_pos e, if_pos e]
  · rw [if_neg e, if_neg e, bq2]
theorem c_378 (cx : rd_cx o tk pl V r x) (h8 : V r 8 0 = -1) (h40 : tk (V r 5 0) = 40) (h7 : ¬ V r 7 0 < 8) : f_X5_readPlain_37 D rC V r u = f_X5_readPlain_156 D rC (f_X5_fail V r).1 r u := by
  have hs := c_seen cx h8
  rw [h40] at hs
  unfold f_X5_readPlain_37
  rw [dv_bn2 hs, if_neg (by decide), c_open, if_neg h7, dv_bn2 rfl, if_pos rfl, dv_bn2 (c_take0 cx (fun _ => by omega)), if_neg (fun q => q rfl), bq2]
/-- "not" at last, behind a fault or not -/
theorem c_add8 (c5 : x ≠ r) (h3 : V r 3 0 = x) : ∃ V', (if u = 0 then V else (f_X10_add V (V r 3 0) 3008).1) = V' ∧ rd_fr r x V V' ∧ ∀ j z, V' r j z = V r j z := by
  by_cases e : u = 0
  · exact ⟨V, by rw [if_pos e], rd_fr_r, fun _ _ => rfl⟩
  · obtain ⟨V', e1, f1, g1⟩ := c_add_f (V := V) (x := x) (c := 3008) (r := r)
    exact ⟨V', by rw [if_neg e, h3, e1], f1, fun j z => g1 j z c5⟩
-- the reference's test behind its "not"s
theorem m_2_f (k : re_cx o cd vl pl W a) (h : W a 21 0 ≠ -1) : dv_lp (f_X12_readPlain_2b d rR) (W, a, lev, 0) = (W, 0) := by
  refine dv_lp_e ?_
  rw [f_X12_readPlain_2e]
  unfold f_X12_readPlain_2c
  rw [if_pos rfl, dv_bn2 (m_fine0 h), if_neg (fun q => q rfl)]
theorem m_2_8 (k : re_cx o cd vl pl W a) (h : W a 21 0 = -1) (hc : cd (W a 19 0) = 140) (hp : pl (W a 19 0) ≠ -1) : dv_lp (f_X12_readPlain_2b d rR) (W, a, 8, 0) = (dv_u W a 21 0 (pl (W a 19 0)), 0) := by
  refine dv_lp_e ?_
  rw [f_X12_readPlain_2e]
  unfold f_X12_readPlain_2c f_X12_readPlain_53
  rw [if_pos rfl, dv_bn2 (m_fine1 h), if_pos (by decide), bq, bq, k.1, dv_bn2 q_sign, hc, if_neg (by decide), if_neg (by decide), dv_bn2 (m_faults k h), dv_bn2 (m_fine0 (by rw [u_e]; exact hp)), if_neg (fun q => q rfl)]
theorem m_2_b (k : re_cx o cd vl pl W a) (h : W a 21 0 = -1) (hc : cd (W a 19 0) = 140) (hl : lev ≠ 8) : dv_lp (f_X12_readPlain_2b d rR) (W, a, lev, 0) = ((f_X12_must (rR (dv_u W a 19 0 (W a 19 0 + 1)) a (lev + 1)).1 a 141).1, 0) := by
  refine dv_lp_e ?_
  rw [f_X12_readPlain_2e]
  unfold f_X12_readPlain_2c f_X12_readPlain_53
  rw [if_pos rfl, dv_bn2 (m_fine1 h), if_pos (by decide), bq, bq, k.1, dv_bn2 q_sign, hc, if_neg (by decide), if_pos hl, dv_bn2 (m_fine1 h), if_pos (by decide), bq, bq, bq, bq, bq2, dv_bn2 q_sign, bq2]
  rfl
theorem m_2_s (k : re_cx o cd vl pl W a) (h : W a 21 0 = -1) (hc : cd (W a 19 0) ≠ 140) {y : Int} (hr : f_X12_readSum d W a lev = (W1, y)) (g : re_fr a W W1) : dv_lp (f_X12_readPlain_2b d rR) (W, a, lev, 0) = (if W1 a 21 0 = -1 ∧ (cd (W1 a 19 0) = 160 ∨ cd (W1 a 19 0) = 162 ∨ cd (W1 a 19 0) = 161) then (f_X12_readSum d (dv_u W1 a 19 0 (W1 a 19 0 + 1)) a lev).1 else (f_X12_readSum d (f_X12_must W1 a 161).1 a lev).1, 0) := by
  have k1 := re_cx_f k g
  refine dv_lp_e ?_
  rw [f_X12_readPlain_2e]
  unfold f_X12_readPlain_2c
  rw [if_pos rfl, dv_bn2 (m_fine1 h), if_pos (by decide), bq, bq, k.1, dv_bn2 q_sign, if_pos (show cd (W a 19 0) ≠ 100 + 40 by omega), dv_bn2 hr, dv_bn2 q_sign]
  by_cases h1 : W1 a 21 0 = -1
  · by_cases e0 : cd (W1 a 19 0) = 160
    · rw [dv_bn2 (m_take1 k1 h1 (by omega)), if_pos (by decide), bq2, if_pos ⟨h1, Or.inl e0⟩]
    · rw [dv_bn2 (m_take0 k1 (fun _ => by omega)), if_neg (fun q => q rfl), dv_bn2 q_sign]
      by_cases e2 : cd (W1 a 19 0) = 162
      · rw [dv_bn2 (m_take1 k1 h1 (by omega)), if_pos (by decide), bq2, if_pos ⟨h1, Or.inr (Or.inl e2)⟩]
      · rw [dv_bn2 (m_take0 k1 (fun _ => by omega)), if_neg (fun q => q rfl), dv_bn2 q_sign, bq2, bq2]
        by_cases e1 : cd (W1 a 19 0) = 161
        · rw [if_pos ⟨h1, Or.inr (Or.inr e1)⟩, m_must1 k1 h1 (by omega)]
        · rw [if_neg (fun q => by omega)]
          rfl
  · rw [dv_bn2 (m_take0 k1 (fun q => absurd q h1)), if_neg (fun q => q rfl), dv_bn2 q_sign, dv_bn2 (m_take0 k1 (fun q => absurd q h1)), if_neg (fun q => q rfl), dv_bn2 q_sign, bq2, bq2, if_neg (fun q => h1 q.1)]
    rfl
end QRN
section QRM
variable {V V' V1 V2 V3 V4 W W' W1 : dV} {r x a i t c v o p N lev h h' u cnt s : Int} {tk pl cd vl : Int → Int} {D d e : Nat} {P El El' : Int → Int → dn → Prop} {fC rC : dV → Int → dR} {fR rR : dV → Int → Int → dR}
/-- as rd_out, with s codes more than the bytes behind the first token -/
def rd_outs (pl : Int → Int) (N h s : Int) (El : Int → Int → dn → Prop) (V W : dV) (r x a : Int) (V' W' : dV) : Prop := rd_fr r x V V' ∧ re_fr a W W' ∧ V' r 7 0 = V r 7 0 ∧ W' a 21 0 = V' r 8 0 ∧ (V' r 8 0 = -1 → V r 8 0 = -1 ∧ rd_at pl N V' W' r x a ∧ V r 5 0 < V' r 5 0 ∧ V x 2 0 < V' x 2 0 ∧ V' x 2 0 - V x 2 0 ≤ pl (V' r 5 0) - pl (V r 5 0) + s ∧ (∀ z, z < V x 2 0 → V' x 0 z = V x 0 z) ∧ ∃ A, El (V r 5 0) (V' r 5 0) A ∧ K_seg (V' x 0) (V x 2 0) (V' x 2 0) A h)
theorem rd_bads (f : rd_fr r x V V') (g : re_fr a W W') (h7 : V' r 7 0 = V r 7 0) (h8 : V' r 8 0 = p) (h21 : W' a 21 0 = p) (hp : p ≠ -1) : rd_outs pl N h s El V W r x a V' W' := ⟨f, g, h7, by rw [h8, h21], fun q => absurd (h8.symm.trans q) hp⟩
/-- a test that has been read, and its "not" -/
theorem rd_fin (c5 : x ≠ r) (hu : u = 0 ∨ u = 1) (h8 : V r 8 0 = -1) (F : rd_fr r x V V4) (G : re_fr a W W') (h7 : V4 r 7 0 = V r 7 0) (h48 : V4 r 8 0 = -1) (w8 : W' a 21 0 = -1) (at4 : rd_at pl N V4 W' r x a) (p4 : pl (V4 r 5 0) ≤ 400) (i5 : V r 5 0 < V4 r 5 0) (i2 : V x 2 0 < V4 x 2 0) (sz : V4 x 2 0 - V x 2 0 ≤ pl (V4 r 5 0) - pl (V r 5 0)) (szu : V x 2 0 + u ≤ pl (V r 5 0)) (hz : ∀ z, z < V x 2 0 → V4 x 0 z = V x 0 z) {B : dn} (hE : El (V r 5 0) (V4 r 5 0) B) (h01 : d_01 B) (hK : K_seg (V4 x 0) (V x 2 0) (V4 x 2 0) B h) : ∃ V', (if u = 0 then V4 else (f_X10_add V4 x 3008).1) = V' ∧ rd_outs pl N h u (fun i j A => ∃ B, El i j B ∧ A = if u = 0 then B else d_not B) V W r x a V' W' := by
  by_cases e : u = 0
  · refine ⟨V4, by rw [if_pos e], F, G, h7, w8.trans h48.symm, fun _ => ⟨h8, at4, i5, i2, by omega, hz, B, ⟨B, hE, by rw [if_pos e]⟩, hK⟩⟩
  · have u1 : u = 1 := by omega
    have a5 := at4.2.2.2.2.1
    refine ⟨_, by rw [if_neg e, c_add (by decide) (show V4 x 2 0 < 400 by omega)], rd_fr_t F (rd_fr_t (rd_fr_x (by decide)) (rd_fr_x (by decide))), G, ?_⟩
    have vr : ∀ m z, dv_u (dv_u V4 x 0 (V4 x 2 0) 3008) x 2 0 (V4 x 2 0 + 1) r m z = V4 r m z := fun m z => by rw [u_b (Ne.symm c5), u_b (Ne.symm c5)]
    have v2 : dv_u (dv_u V4 x 0 (V4 x 2 0) 3008) x 2 0 (V4 x 2 0 + 1) x 2 0 = V4 x 2 0 + 1 := u_e
    have vc : dv_u (dv_u V4 x 0 (V4 x 2 0) 3008) x 2 0 (V4 x 2 0 + 1) x 0 (V4 x 2 0) = 3008 := by rw [u_j (by decide), u_e]
    have vz : ∀ z, z < V4 x 2 0 → dv_u (dv_u V4 x 0 (V4 x 2 0) 3008) x 2 0 (V4 x 2 0 + 1) x 0 z = V4 x 0 z := fun z hz => by rw [u_j (by decide), u_i (by omega)]
    show dv_u (dv_u V4 x 0 (V4 x 2 0) 3008) x 2 0 (V4 x 2 0 + 1) r 7 0 = V r 7 0 ∧ W' a 21 0 = dv_u (dv_u V4 x 0 (V4 x 2 0) 3008) x 2 0 (V4 x 2 0 + 1) r 8 0 ∧ (dv_u (dv_u V4 x 0 (V4 x 2 0) 3008) x 2 0 (V4 x 2 0 + 1) r 8 0 = -1 → _)
    generalize dv_u (dv_u V4 x 0 (V4 x 2 0) 3008) x 2 0 (V4 x 2 0 + 1) = V5 at vr v2 vc vz
    obtain ⟨b1, b2, b3, b4, b5, b6⟩ := at4
    refine ⟨by rw [vr, h7], by rw [vr, w8, h48], fun _ => ⟨h8, ⟨by rw [vr]; exact b1, by rw [vr]; exact b2, by rw [vr]; exact b3, by rw [vr]; exact b4, by rw [v2]; omega, by rw [v2, vr]; omega⟩, by rw [vr]; exact i5, by rw [v2]; omega, by rw [v2, vr]; omega, fun z z1 => by rw [vz z (by omega), hz z z1], d_not B, ⟨B, by rw [vr]; exact hE, by rw [if_neg e]⟩, ?_⟩⟩
    rw [v2]
    exact K_not (K_seg_c hK (fun z _ z1 => vz z z1)) vc h01
theorem tk_cmp (T : rd_tk t c v) : (c = 160 ∨ c = 162 ∨ c = 161) ↔ (t = 60 ∧ c = 160 ∨ t = 62 ∧ c = 162 ∨ t = 61 ∧ c = 161) := by unfold rd_tk rd_wp at T; omega
theorem rd_mainB (ts : rd_ts tk pl cd vl N) (hd : d + 1 ≤ 8) (hT : rd_ok o tk pl cd vl N (8 - (d : Int)) 20 (D_test o cd vl d) rC rR) (hlev : lev = 8 - ((d + 1 : Nat) : Int)) (hu : u = 0 ∨ u = 1) (hi : rd_in o tk pl cd vl N V W r x a) (h7 : V r 7 0 = lev) (hsz : V x 2 0 + u ≤ pl (V r 5 0)) (h40 : tk (V r 5 0) = 40) : ∃ (V' W' : dV) (y' : Int), f_X5_readPlain_37 D rC V r u = Sum.inr (V', 0) ∧ dv_lp (f_X12_readPlain_2b e rR) (W, a, lev, 0) = (W', y') ∧ rd_outs pl N 20 u (fun i j A => ∃ B, D_pos o cd vl (d + 1) i j B ∧ A = if u = 0 then B else d_not B) V W r x a V' W' := by
  obtain ⟨T1, T2⟩ := rd_tT hi
  obtain ⟨i1, p1, S1, q1⟩ := rd_iN hi (by omega)
  obtain ⟨-, cx, kx, h8, w8, at0⟩ := id hi
  have a1 := at0.1
  have a2 := at0.2.1
  have a4 := at0.2.2.2.1
  have c5 := cx.2.2.2.2.1
  have c140 : cd (W a 19 0) = 140 := by rw [a1]; exact (rd_sg T1 (b := 40) (by decide) (by decide)).mp h40
  have w1 := @rd_w1 (tk (V r 5 0))
  have hs := c_seen cx h8
  rw [h40] at hs
  have hl : lev + 1 = 8 - (d : Int) := by omega
  have F1 : rd_fr r x V (dv_u (dv_u V r 7 0 (V r 7 0 + 1)) r 5 0 (V r 5 0 + 1)) := rd_fr_t (rd_fr_u (by decide)) (rd_fr_u (by decide))
  have G1 : re_fr a W (dv_u W a 19 0 (W a 19 0 + 1)) := re_fr_u (by decide)
  have z5 : dv_u (dv_u V r 7 0 (V r 7 0 + 1)) r 5 0 (V r 5 0 + 1) r 5 0 = V r 5 0 + 1 := u_e
  have z6 : dv_u (dv_u V r 7 0 (V r 7 0 + 1)) r 5 0 (V r 5 0 + 1) r 6 0 = V r 6 0 := by rw [u_j (by decide), u_j (by decide)]
  have z7 : dv_u (dv_u V r 7 0 (V r 7 0 + 1)) r 5 0 (V r 5 0 + 1) r 7 0 = V r 7 0 + 1 := by rw [u_j (by decide), u_e]
  have z8 : dv_u (dv_u V r 7 0 (V r 7 0 + 1)) r 5 0 (V r 5 0 + 1) r 8 0 = -1 := by rw [u_j (by decide), u_j (by decide), h8]
  have zx : ∀ m z, dv_u (dv_u V r 7 0 (V r 7 0 + 1)) r 5 0 (V r 5 0 + 1) x m z = V x m z := fun m z => by rw [u_b c5, u_b c5]
  have y19 : dv_u W a 19 0 (W a 19 0 + 1) a 19 0 = V r 5 0 + 1 := by rw [u_e, a1]
  have y20 : dv_u W a 19 0 (W a 19 0 + 1) a 20 0 = V r 6 0 := by rw [u_j (by decide), at0.2.2.1]
  have y21 : dv_u W a 19 0 (W a 19 0 + 1) a 21 0 = -1 := by rw [u_j (by decide), w8]
  have mb := m_2_b (d := e) (rR := rR) (lev := lev) kx w8 c140 (by omega)
  have C9 := fun (V2 V3 : dV) (y y3 : Int) => c_37b (V2 := V2) (V3 := V3) (y := y) (y3 := y3) (D := D) (rC := rC) (u := u) hs (by omega)
  generalize dv_u (dv_u V r 7 0 (V r 7 0 + 1)) r 5 0 (V r 5 0 + 1) = V1 at F1 z5 z6 z7 z8 zx C9
  generalize dv_u W a 19 0 (W a 19 0 + 1) = W1 at G1 y19 y20 y21 mb
  have at1 : rd_at pl N V1 W1 r x a := ⟨by rw [y19, z5], by rw [z5]; omega, by rw [y20, z6], by rw [z6]; omega, by rw [zx]; exact at0.2.2.2.2.1, by rw [zx, z5]; have := at0.2.2.2.2.2; omega⟩
  obtain ⟨V2, y, W2, y', e1, e2, o1, o2, o3, o4, o5⟩ := hT V1 W1 r x a (rd_cx_f cx F1) (re_cx_f kx G1) (by rw [z7]; omega) (by rw [y21, z8]) (fun _ => at1)
  rw [hl, e2] at mb
  dsimp only at mb
  have F2 := rd_fr_t F1 o1
  have G2 := re_fr_t G1 o2
  have F3 : rd_fr r x V (dv_u V2 r 7 0 (V2 r 7 0 - 1)) := rd_fr_t F2 (rd_fr_u (by decide))
  have x7 : dv_u V2 r 7 0 (V2 r 7 0 - 1) r 7 0 = V r 7 0 := by rw [u_e, o3, z7]; omega
  have x8 : dv_u V2 r 7 0 (V2 r 7 0 - 1) r 8 0 = V2 r 8 0 := by rw [u_j (by decide)]
  have x5 : dv_u V2 r 7 0 (V2 r 7 0 - 1) r 5 0 = V2 r 5 0 := by rw [u_j (by decide)]
  have x6 : dv_u V2 r 7 0 (V2 r 7 0 - 1) r 6 0 = V2 r 6 0 := by rw [u_j (by decide)]
  have xx : ∀ m z, dv_u V2 r 7 0 (V2 r 7 0 - 1) x m z = V2 x m z := fun m z => by rw [u_b c5]
  have C92 := fun (V3 : dV) (y3 : Int) => C9 V2 V3 y y3 e1
  generalize dv_u V2 r 7 0 (V2 r 7 0 - 1) = V3 at F3 x7 x8 x5 x6 xx C92
  have cx3 := rd_cx_f cx F3
  have kx2 := re_cx_f kx G2
  by_cases g8 : V2 r 8 0 = -1
  · obtain ⟨p8, at2, p5, px, pp, pz, A, pA, pK⟩ := o5 g8
    have w28 : W2 a 21 0 = -1 := o4.trans g8
    have hi2 : rd_in o tk pl cd vl N V2 W2 r x a := ⟨ts, rd_cx_f cx F2, kx2, g8, w28, at2⟩
    obtain ⟨U1, U2⟩ := rd_tT hi2
    by_cases h41 : tk (V2 r 5 0) = 41
    · obtain ⟨j1, r1, R1, s1⟩ := rd_iN hi2 (by omega)
      have v1 := @rd_w1 (tk (V2 r 5 0))
      have e3 := C92 _ _ (c_take1 cx3 (x8.trans g8) (by rw [x5]; exact h41))
      rw [if_pos (by decide), c_156, x5] at e3
      have c141 : cd (V2 r 5 0) = 141 := (rd_sg U1 (b := 41) (by decide) (by decide)).mp h41
      rw [m_must1 kx2 w28 (by rw [at2.1]; exact c141)] at mb
      dsimp only at mb
      have b3 : dv_u V3 r 5 0 (V2 r 5 0 + 1) r 3 0 = x := by rw [u_j (by decide)]; exact cx3.2.2.1
      rw [b3] at e3
      obtain ⟨V', e4, ho⟩ := rd_fin (N := N) (pl := pl) (V := V) (W := W) (El := D_pos o cd vl (d + 1)) (V4 := dv_u V3 r 5 0 (V2 r 5 0 + 1)) (W' := dv_u W2 a 19 0 (W2 a 19 0 + 1)) (u := u) (h := 20) (B := A) c5 hu h8 (rd_fr_t F3 (rd_fr_u (by decide))) (re_fr_t G2 (re_fr_u (by decide))) (by rw [u_j (by decide), x7]) (by rw [u_j (by decide), x8, g8]) (by rw [u_j (by decide), w28]) ⟨by rw [u_e, u_e, at2.1], by rw [u_e]; have := at2.2.1; omega, by rw [u_j (by decide), u_j (by decide), x6, at2.2.2.1], by rw [u_j (by decide), x6]; exact at2.2.2.2.1, by rw [u_b c5, xx]; exact at2.2.2.2.2.1, by rw [u_b c5, xx, u_e]; have := at2.2.2.2.2.2; omega⟩ (by rw [u_e]; omega) (by rw [u_e]; rw [z5] at p5; omega) (by rw [u_b c5, xx]; rw [zx] at px; omega) (by rw [u_b c5, xx, u_e]; rw [zx, z5] at pp; omega) hsz (fun z hz => by rw [u_b c5, xx, pz z (by rw [zx]; exact hz), zx]) (by
          rw [u_e]
          refine Or.inr ⟨by rw [← a1]; exact c140, ?_, ?_⟩
          · rw [show V2 r 5 0 + 1 - 1 = V2 r 5 0 by omega, ← z5]; exact pA
          · rw [show V2 r 5 0 + 1 - 1 = V2 r 5 0 by omega]; exact c141) (D_testF_01 (fun _ _ _ => D_pos_01) pA) (by
          rw [u_b c5, xx]
          rw [zx] at pK
          exact K_seg_c pK (fun z _ _ => by rw [u_b c5, xx]))
      rw [e4] at e3
      exact ⟨V', _, _, e3, mb, ho⟩
    · have e3 := C92 _ _ (c_take0 cx3 (fun _ => by rw [x5]; exact h41))
      rw [if_neg (fun q => q rfl), c_fail cx3 (x8.trans g8), x5, c_156] at e3
      have c141 : cd (W2 a 19 0) ≠ 141 := by rw [at2.1]; exact fun q => h41 ((rd_sg U1 (b := 41) (by decide) (by decide)).mpr q)
      rw [m_must0 kx2 w28 c141, at2.1] at mb
      obtain ⟨V', e4, f4, g4⟩ := c_add8 (V := dv_u V3 r 8 0 (pl (V2 r 5 0))) (u := u) c5 (by rw [u_j (by decide)]; exact cx3.2.2.1)
      dsimp only at e3
      rw [e4] at e3
      exact ⟨V', _, _, e3, mb, rd_bads (rd_fr_t F3 (rd_fr_t (rd_fr_u (by decide)) f4)) (re_fr_t G2 (re_fr_u (by decide))) (by rw [g4, u_j (by decide), x7]) (by rw [g4, u_e]) (by show dv_u _ _ _ _ _ _ _ _ = _; rw [u_e]) (by omega)⟩
  · have e3 := C92 _ _ (c_take0 cx3 (fun q => absurd (x8.symm.trans q) g8))
    rw [if_neg (fun q => q rfl), c_fail_f (by rw [x8]; exact g8), c_156] at e3
    rw [m_must_f kx2 (by rw [o4]; exact g8)] at mb
    obtain ⟨V', e4, f4, g4⟩ := c_add8 (V := V3) (u := u) c5 cx3.2.2.1
    dsimp only at e3
    rw [e4] at e3
    exact ⟨V', _, _, e3, mb, rd_bads (rd_fr_t F3 f4) G2 (by rw [g4, x7]) (by rw [g4, x8]) o4 g8⟩
end QRM
section QRO
variable {V V' V1 V2 V3 V4 W W' W1 : dV} {r x a i t c v o p N lev h h' u cnt s : Int} {tk pl cd vl : Int → Int} {D d e : Nat} {P El El' : Int → Int → dn → Prop} {fC rC : dV → Int → dR} {fR rR : dV → Int → Int → dR}
/-- a comparison -/
theorem rd_mainC (ts : rd_ts tk pl cd vl N) (hd : d ≤ 8) (hlev : lev = 8 - (d : Int)) (hu : u = 0 ∨ u = 1) (hi : rd_in o tk pl cd vl N V W r x a) (h7 : V r 7 0 = lev) (hsz : V x 2 0 + u ≤ pl (V r 5 0)) (h40 : tk (V r 5 0) ≠ 40) : ∃ (V' W' : dV) (y' : Int), f_X5_readPlain_37 D rC V r u = Sum.inr (V', 0) ∧ dv_lp (f_X12_readPlain_2b d rR) (W, a, lev, 0) = (W', y') ∧ rd_outs pl N 20 u (fun i j A => ∃ B, D_comp o cd vl d i j B ∧ A = if u = 0 then B else d_not B) V W r x a V' W' := by
  obtain ⟨T1, T2⟩ := rd_tT hi
  obtain ⟨-, cx, kx, h8, w8, at0⟩ := id hi
  have a1 := at0.1
  have c5 := cx.2.2.2.2.1
  have hs := c_seen cx h8
  have n140 : cd (W a 19 0) ≠ 140 := by rw [a1]; exact fun q => h40 ((rd_sg T1 (b := 40) (by decide) (by decide)).mpr q)
  obtain ⟨V1, y, W1, y', e1, e2, o1, o2, o3, o4, o5⟩ := rd_sum (o := o) ts d 8 hd V W r x a cx kx (h7.trans hlev) (w8.trans h8.symm) (fun _ => at0)
  rw [← hlev] at e2
  have cx1 := rd_cx_f cx o1
  have kx1 := re_cx_f kx o2
  have m2 := m_2_s (rR := rR) kx w8 n140 e2 o2
  by_cases g8 : V1 r 8 0 = -1
  · obtain ⟨p8, at1, p5, px, pp, pz, A, pA, pK⟩ := o5 g8
    have w18 : W1 a 21 0 = -1 := o4.trans g8
    have hi1 : rd_in o tk pl cd vl N V1 W1 r x a := ⟨ts, cx1, kx1, g8, w18, at1⟩
    obtain ⟨U1, U2⟩ := rd_tT hi1
    by_cases hc : cd (V1 r 5 0) = 160 ∨ cd (V1 r 5 0) = 162 ∨ cd (V1 r 5 0) = 161
    · have ht := (tk_cmp U1).mp hc
      obtain ⟨j1, r1, R1, s1⟩ := rd_iN hi1 (by omega)
      have v1 := @rd_w1 (tk (V1 r 5 0))
      rw [if_pos ⟨w18, by rw [at1.1]; exact hc⟩] at m2
      have F1 : rd_fr r x V (dv_u V1 r 5 0 (V1 r 5 0 + 1)) := rd_fr_t o1 (rd_fr_u (by decide))
      have G1 : re_fr a W (dv_u W1 a 19 0 (W1 a 19 0 + 1)) := re_fr_t o2 (re_fr_u (by decide))
      have z5 : dv_u V1 r 5 0 (V1 r 5 0 + 1) r 5 0 = V1 r 5 0 + 1 := u_e
      have z6 : dv_u V1 r 5 0 (V1 r 5 0 + 1) r 6 0 = V1 r 6 0 := u_j (by decide)
      have z7 : dv_u V1 r 5 0 (V1 r 5 0 + 1) r 7 0 = V1 r 7 0 := u_j (by decide)
      have z8 : dv_u V1 r 5 0 (V1 r 5 0 + 1) r 8 0 = -1 := by rw [u_j (by decide), g8]
      have zx : ∀ m z, dv_u V1 r 5 0 (V1 r 5 0 + 1) x m z = V1 x m z := fun m z => u_b c5
      have y19 : dv_u W1 a 19 0 (W1 a 19 0 + 1) a 19 0 = V1 r 5 0 + 1 := by rw [u_e, at1.1]
      have y20 : dv_u W1 a 19 0 (W1 a 19 0 + 1) a 20 0 = V1 r 6 0 := by rw [u_j (by decide), at1.2.2.1]
      have y21 : dv_u W1 a 19 0 (W1 a 19 0 + 1) a 21 0 = -1 := by rw [u_j (by decide), w18]
      have C1 := c_37c (D := D) (rC := rC) (u := u) (c := cd (V1 r 5 0)) cx hs h40 e1 o1 g8 ht
      generalize dv_u V1 r 5 0 (V1 r 5 0 + 1) = V2 at F1 z5 z6 z7 z8 zx C1
      generalize dv_u W1 a 19 0 (W1 a 19 0 + 1) = W2 at G1 y19 y20 y21 m2
      have at2 : rd_at pl N V2 W2 r x a := ⟨by rw [y19, z5], by rw [z5]; have := at1.2.1; omega, by rw [y20, z6], by rw [z6]; exact at1.2.2.2.1, by rw [zx]; exact at1.2.2.2.2.1, by rw [zx, z5]; have := at1.2.2.2.2.2; omega⟩
      obtain ⟨V3, b, W3, b', f1, f2, q1, q2, q3, q4, q5⟩ := rd_sum (o := o) ts d 8 hd V2 W2 r x a (rd_cx_f cx F1) (re_cx_f kx G1) (by rw [z7, o3, h7, hlev]) (by rw [y21, z8]) (fun _ => at2)
      rw [← hlev] at f2
      rw [f2] at m2
      dsimp only at m2
      have ic := (k_sg_in (cd (V1 r 5 0))).1
      rw [c_133p (by omega) f1] at C1
      have F3 := rd_fr_t F1 q1
      have G3 := re_fr_t G1 q2
      have cx3 := rd_cx_f cx F3
      rw [cx3.2.2.1, c_156] at C1
      by_cases g38 : V3 r 8 0 = -1
      · obtain ⟨p38, at3, p35, px3, pp3, pz3, A3, pA3, pK3⟩ := q5 g38
        have w38 : W3 a 21 0 = -1 := q4.trans g38
        have U3 := (ts.2.2 (V3 r 5 0) at3.2.1.1 at3.2.1.2).2.1
        rw [z5] at p35 pp3 pA3
        rw [zx] at px3 pp3 pz3 pK3
        have b6 := at3.2.2.2.2.2
        have b5 := at3.2.2.2.2.1
        rw [c_add (by omega) (show V3 x 2 0 < 400 by have := at1.2.2.2.2.2; omega)] at C1
        dsimp only at C1
        have F4 : rd_fr r x V (dv_u (dv_u V3 x 0 (V3 x 2 0) (k_sg (cd (V1 r 5 0)))) x 2 0 (V3 x 2 0 + 1)) := rd_fr_t F3 (rd_fr_t (rd_fr_x (by decide)) (rd_fr_x (by decide)))
        have vr : ∀ m z, dv_u (dv_u V3 x 0 (V3 x 2 0) (k_sg (cd (V1 r 5 0)))) x 2 0 (V3 x 2 0 + 1) r m z = V3 r m z := fun m z => by rw [u_b (Ne.symm c5), u_b (Ne.symm c5)]
        have v2 : dv_u (dv_u V3 x 0 (V3 x 2 0) (k_sg (cd (V1 r 5 0)))) x 2 0 (V3 x 2 0 + 1) x 2 0 = V3 x 2 0 + 1 := u_e
        have vc : dv_u (dv_u V3 x 0 (V3 x 2 0) (k_sg (cd (V1 r 5 0)))) x 2 0 (V3 x 2 0 + 1) x 0 (V3 x 2 0) = k_sg (cd (V1 r 5 0)) := by rw [u_j (by decide), u_e]
        have vz : ∀ z, z < V3 x 2 0 → dv_u (dv_u V3 x 0 (V3 x 2 0) (k_sg (cd (V1 r 5 0)))) x 2 0 (V3 x 2 0 + 1) x 0 z = V3 x 0 z := fun z hz => by rw [u_j (by decide), u_i (by omega)]
        generalize dv_u (dv_u V3 x 0 (V3 x 2 0) (k_sg (cd (V1 r 5 0)))) x 2 0 (V3 x 2 0 + 1) = V4 at C1 F4 vr v2 vc vz
        rw [(rd_cx_f cx F4).2.2.1] at C1
        have hK : K_seg (V4 x 0) (V x 2 0) (V4 x 2 0) (d_cmp (cd (V1 r 5 0)) A A3) 20 := by
          rw [v2]
          exact K_cmp (K_seg_c pK (fun z _ z1 => by rw [vz z (by omega), pz3 z z1, zx])) (K_seg_c pK3 (fun z _ z1 => vz z z1)) vc hc (D_sum_in pA) (D_sum_in pA3) (by omega) (by omega)
        obtain ⟨V', e4, ho⟩ := rd_fin (N := N) (pl := pl) (V := V) (W := W) (El := D_comp o cd vl d) (V4 := V4) (W' := W3) (u := u) (h := 20) (B := d_cmp (cd (V1 r 5 0)) A A3) c5 hu h8 F4 G3 (by rw [vr, q3, z7, o3]) (by rw [vr, g38]) w38 ⟨by rw [vr]; exact at3.1, by rw [vr]; exact at3.2.1, by rw [vr]; exact at3.2.2.1, by rw [vr]; exact at3.2.2.2.1, by rw [v2]; omega, by rw [v2, vr]; have := at1.2.2.2.2.2; omega⟩ (by rw [vr]; omega) (by rw [vr]; omega) (by rw [v2]; omega) (by rw [v2, vr]; omega) hsz (fun z hz => by rw [vz z (by omega), pz3 z (by omega), zx, pz z hz]) ⟨V1 r 5 0, A, A3, pA, hc, by rw [vr]; exact pA3, rfl⟩ d_cmp_01 hK
        rw [e4] at C1
        exact ⟨V', _, _, C1, m2, ho⟩
      · obtain ⟨V4, e3, f3, k3⟩ := c_add_f (V := V3) (x := x) (c := k_sg (cd (V1 r 5 0))) (r := r)
        have k3 : ∀ j z, V4 r j z = V3 r j z := fun j z => k3 j z c5
        rw [e3] at C1
        dsimp only at C1
        obtain ⟨V', e4, f4, g4⟩ := c_add8 (V := V4) (u := u) c5 (rd_cx_f cx3 f3).2.2.1
        rw [(rd_cx_f cx3 f3).2.2.1] at e4
        rw [(rd_cx_f cx3 f3).2.2.1, e4] at C1
        exact ⟨V', _, _, C1, m2, rd_bads (rd_fr_t F3 (rd_fr_t f3 f4)) G3 (by rw [g4, k3, q3, z7, o3]) (by rw [g4, k3]) q4 g38⟩
    · have C1 := c_37s (D := D) (rC := rC) (u := u) cx hs h40 e1 o1 (fun _ => by
        have n1 := mt (tk_cmp U1).mpr hc
        clear ts hi hi1 o5 at1
        unfold rd_tk rd_wp at U1
        omega)
      rw [c_fail cx1 g8] at C1
      rw [if_neg (fun q => hc (by rw [← at1.1]; exact q.2)), m_must0 kx1 w18 (by rw [at1.1]; omega), at1.1] at m2
      dsimp only at m2
      have hp : pl (V1 r 5 0) ≠ -1 := by omega
      rw [m_sum_f (re_cx_f kx1 (re_fr_u (by decide))) (by rw [u_e]; exact hp)] at m2
      exact ⟨_, _, _, C1, m2, rd_bads (rd_fr_t o1 (rd_fr_u (by decide))) (re_fr_t o2 (re_fr_u (by decide))) (by show dv_u _ _ _ _ _ _ _ _ = _; rw [u_j (by decide), o3]) (by show dv_u _ _ _ _ _ _ _ _ = _; rw [u_e]) (by show dv_u _ _ _ _ _ _ _ _ = _; rw [u_e]) hp⟩
  · have C1 := c_37s (D := D) (rC := rC) (u := u) cx hs h40 e1 o1 (fun q => absurd q g8)
    rw [c_fail_f g8] at C1
    have w1 : W1 a 21 0 ≠ -1 := by rw [o4]; exact g8
    rw [if_neg (fun q => w1 q.1), m_must_f kx1 w1] at m2
    dsimp only at m2
    rw [m_sum_f kx1 w1] at m2
    exact ⟨_, _, _, C1, m2, rd_bads o1 o2 o3 rfl o4 g8⟩
end QRO
section QRX
variable {V V' V1 V2 V3 V4 W W' W1 : dV} {r x a i t c v o p N lev h h' u cnt s : Int} {tk pl cd vl : Int → Int} {D d e : Nat} {P El El' : Int → Int → dn → Prop} {fC rC : dV → Int → dR} {fR rR : dV → Int → Int → dR}
theorem rd_outs_m (ho : rd_outs pl N h s El V W r x a V' W') (hE : ∀ i j A, El i j A → El' i j A) : rd_outs pl N h s El' V W r x a V' W' := by
  obtain ⟨h1, h2, h3, h4, h5⟩ := ho
  refine ⟨h1, h2, h3, h4, fun q => ?_⟩
  obtain ⟨g1, g2, g3, g4, g5, g6, A, g7, g8⟩ := h5 q
  exact ⟨g1, g2, g3, g4, g5, g6, A, hE _ _ _ g7, g8⟩
/-- behind the "not"s -/
theorem rd_main (ts : rd_ts tk pl cd vl N) (hd : d ≤ 8) (hT : ∀ d', d = d' + 1 → rd_ok o tk pl cd vl N (8 - (d' : Int)) 20 (D_test o cd vl d') rC rR) (hlev : lev = 8 - (d : Int)) (hu : u = 0 ∨ u = 1) (hi : rd_in o tk pl cd vl N V W r x a) (h7 : V r 7 0 = lev) (hsz : V x 2 0 + u ≤ pl (V r 5 0)) : ∃ (V' W' : dV) (y' : Int), f_X5_readPlain_37 D rC V r u = Sum.inr (V', 0) ∧ dv_lp (f_X12_readPlain_2b d rR) (W, a, lev, 0) = (W', y') ∧ rd_outs pl N 20 u (fun i j A => ∃ B, D_pos o cd vl d i j B ∧ A = if u = 0 then B else d_not B) V W r x a V' W' := by
  by_cases h40 : tk (V r 5 0) = 40
  · cases d with
    | zero =>
      obtain ⟨T1, T2⟩ := rd_tT hi
      obtain ⟨-, cx, kx, h8, w8, at0⟩ := id hi
      have a1 := at0.1
      have c5 := cx.2.2.2.2.1
      have l8 : lev = 8 := by omega
      have c140 : cd (W a 19 0) = 140 := by rw [a1]; exact (rd_sg T1 (b := 40) (by decide) (by decide)).mp h40
      have e1 := c_378 (D := D) (rC := rC) (u := u) cx h8 h40 (by omega)
      rw [c_156, c_fail cx h8] at e1
      have e2 := m_2_8 (d := 0) (rR := rR) kx w8 c140 (by rw [a1]; omega)
      rw [← l8] at e2
      obtain ⟨V', e4, f4, g4⟩ := c_add8 (V := dv_u V r 8 0 (pl (V r 5 0))) (u := u) c5 (by rw [u_j (by decide)]; exact cx.2.2.1)
      dsimp only at e1
      rw [e4] at e1
      exact ⟨V', _, _, e1, e2, rd_bads (rd_fr_t (rd_fr_u (by decide)) f4) (re_fr_u (by decide)) (by rw [g4, u_j (by decide)]) (by rw [g4, u_e]) (by rw [u_e, a1]) (by omega)⟩
    | succ d => exact rd_mainB ts hd (hT d rfl) hlev hu hi h7 hsz h40
  · obtain ⟨V', W', y', e1, e2, ho⟩ := rd_mainC (D := D) (rC := rC) (rR := rR) ts hd hlev hu hi h7 hsz h40
    refine ⟨V', W', y', e1, e2, rd_outs_m ho (fun i j A hE => ?_)⟩
    obtain ⟨B, hB, hA⟩ := hE
    refine ⟨B, ?_, hA⟩
    cases d with
    | zero => exact hB
    | succ d => exact Or.inl hB
-- "not"s
theorem c_4_go (cx : rd_cx o tk pl V r x) (hn : cnt < 400 → V r 8 0 = -1 → tk (V r 5 0) ≠ 314) {res : dR} (h : f_X5_readPlain_37 D rC V r u = Sum.inr res) : dv_lp (f_X5_readPlain_4b D rC) (V, r, u, cnt) = res := by
  refine dv_lp_e ?_
  rw [f_X5_readPlain_4e]
  unfold f_X5_readPlain_4c
  by_cases k : 400 ≤ cnt
  · rw [if_pos k, h]
  · rw [if_neg k, dv_bn2 (c_take0 cx (hn (by omega))), if_pos rfl, h]
theorem c_4_not (cx : rd_cx o tk pl V r x) (hk : cnt < 400) (h8 : V r 8 0 = -1) (ht : tk (V r 5 0) = 314) (hu : u = 0 ∨ u = 1) : dv_lp (f_X5_readPlain_4b D rC) (V, r, u, cnt) = dv_lp (f_X5_readPlain_4b D rC) (dv_u V r 5 0 (V r 5 0 + 1), r, 1 - u, cnt + 1) := by
  refine dv_lp_s ?_
  rw [f_X5_readPlain_4e]
  unfold f_X5_readPlain_4c f_X5_readPlain_30
  rw [if_neg (by omega), dv_bn2 (c_take1 cx h8 ht), if_neg (by decide)]
  rcases hu with rfl | rfl
  · rw [if_neg (by decide), bq]; rfl
  · rw [if_pos (by decide), bq]; rfl
theorem m_2_go (k : re_cx o cd vl pl W a) (hn : W a 21 0 = -1 → cd (W a 19 0) ≠ 7) : dv_lp (f_X12_readPlain_2b d rR) (W, a, lev, 1) = dv_lp (f_X12_readPlain_2b d rR) (W, a, lev, 0) := by
  refine dv_lp_s ?_
  rw [f_X12_readPlain_2e]
  unfold f_X12_readPlain_2c
  rw [if_neg (by decide), dv_bn2 (m_take0 k hn)]
theorem m_2_not (k : re_cx o cd vl pl W a) (w8 : W a 21 0 = -1) (hc : cd (W a 19 0) = 7) : dv_lp (f_X12_readPlain_2b d rR) (W, a, lev, 1) = dv_lp (f_X12_readPlain_2b d rR) (dv_u W a 19 0 (W a 19 0 + 1), a, lev, 1) := by
  refine dv_lp_s ?_
  rw [f_X12_readPlain_2e]
  unfold f_X12_readPlain_2c
  rw [if_neg (by decide), dv_bn2 (m_take1 k w8 hc)]
theorem tk_not (T : rd_tk t c v) : t = 314 ↔ c = 7 := by unfold rd_tk rd_wp at T; omega
def rd_ns (o : Int) (cd vl : Int → Int) (d : Nat) (u : Int) (i j : Int) (A : dn) : Prop := ∃ (k : Nat) (C : dn), (∀ m : Nat, m < k → cd (i + m) = 7) ∧ cd (i + k) ≠ 7 ∧ D_pos o cd vl d (i + k) j C ∧ A = if d_tw k u = 0 then C else d_not C
theorem rd_nots (ts : rd_ts tk pl cd vl N) (hd : d ≤ 8) (hT : ∀ d', d = d' + 1 → rd_ok o tk pl cd vl N (8 - (d' : Int)) 20 (D_test o cd vl d') rC rR) (hlev : lev = 8 - (d : Int)) (n : Nat) : ∀ (V W : dV) (r x a u cnt : Int), (u = 0 ∨ u = 1) → rd_in o tk pl cd vl N V W r x a → V r 7 0 = lev → V x 2 0 + u ≤ pl (V r 5 0) → N - V r 5 0 ≤ n → cnt ≤ V r 5 0 → ∃ (V' W' : dV) (y' : Int), dv_lp (f_X5_readPlain_4b D rC) (V, r, u, cnt) = (V', 0) ∧ dv_lp (f_X12_readPlain_2b d rR) (W, a, lev, 1) = (W', y') ∧ rd_outs pl N 20 u (rd_ns o cd vl d u) V W r x a V' W' := by
  induction n with
  | zero =>
    intro V W r x a u cnt hu hi h7 hsz hn hk
    obtain ⟨T1, T2⟩ := rd_tT hi
    obtain ⟨-, cx, kx, h8, w8, at0⟩ := id hi
    have a1 := at0.1
    have n14 : tk (V r 5 0) ≠ 314 := by
      have : V r 5 0 = N := by have := at0.2.1; omega
      rw [this, ts.2.1]; decide
    have n7 : cd (V r 5 0) ≠ 7 := fun q => n14 ((tk_not T1).mpr q)
    obtain ⟨V', W', y', e1, e2, ho⟩ := rd_main (D := D) ts hd hT hlev hu hi h7 hsz
    refine ⟨V', W', y', c_4_go cx (fun _ _ => n14) e1, (m_2_go kx (fun _ => by rw [a1]; exact n7)).trans e2, ?_⟩
    obtain ⟨o1, o2, o3, o4, o5⟩ := ho
    refine ⟨o1, o2, o3, o4, fun q => ?_⟩
    obtain ⟨g1, g2, g3, g4, g5, g6, A, ⟨B, hB, hA⟩, g8⟩ := o5 q
    refine ⟨g1, g2, g3, g4, g5, g6, A, ⟨0, B, fun m hm => absurd hm (Nat.not_lt_zero m), ?_, ?_, ?_⟩, g8⟩
    · rw [Int.natCast_zero, Int.add_zero]; exact n7
    · rw [Int.natCast_zero, Int.add_zero]; exact hB
    · rw [hA]; rfl
  | succ n ih =>
    intro V W r x a u cnt hu hi h7 hsz hn hk
    obtain ⟨T1, T2⟩ := rd_tT hi
    have hiN := rd_iN hi
    obtain ⟨-, cx, kx, h8, w8, at0⟩ := id hi
    have a1 := at0.1
    have c5 := cx.2.2.2.2.1
    by_cases h14 : tk (V r 5 0) = 314
    · have c7 : cd (V r 5 0) = 7 := (tk_not T1).mp h14
      obtain ⟨i1, p1, S1, q1⟩ := hiN (by omega)
      have w1 := @rd_w1 (tk (V r 5 0))
      have tN := ts.1
      have F1 : rd_fr r x V (dv_u V r 5 0 (V r 5 0 + 1)) := rd_fr_u (by decide)
      have G1 : re_fr a W (dv_u W a 19 0 (W a 19 0 + 1)) := re_fr_u (by decide)
      have z5 : dv_u V r 5 0 (V r 5 0 + 1) r 5 0 = V r 5 0 + 1 := u_e
      have z6 : dv_u V r 5 0 (V r 5 0 + 1) r 6 0 = V r 6 0 := u_j (by decide)
      have z7 : dv_u V r 5 0 (V r 5 0 + 1) r 7 0 = V r 7 0 := u_j (by decide)
      have z8 : dv_u V r 5 0 (V r 5 0 + 1) r 8 0 = -1 := by rw [u_j (by decide), h8]
      have zx : ∀ m z, dv_u V r 5 0 (V r 5 0 + 1) x m z = V x m z := fun m z => u_b c5
      have y19 : dv_u W a 19 0 (W a 19 0 + 1) a 19 0 = V r 5 0 + 1 := by rw [u_e, a1]
      have y20 : dv_u W a 19 0 (W a 19 0 + 1) a 20 0 = V r 6 0 := by rw [u_j (by decide), at0.2.2.1]
      have y21 : dv_u W a 19 0 (W a 19 0 + 1) a 21 0 = -1 := by rw [u_j (by decide), w8]
      have C1 := c_4_not (D := D) (rC := rC) (cnt := cnt) cx (by omega) h8 h14 hu
      have R1 := m_2_not (d := d) (rR := rR) (lev := lev) kx w8 (by rw [a1]; exact c7)
      generalize dv_u V r 5 0 (V r 5 0 + 1) = V1 at F1 z5 z6 z7 z8 zx C1
      generalize dv_u W a 19 0 (W a 19 0 + 1) = W1 at G1 y19 y20 y21 R1
      have at1 : rd_at pl N V1 W1 r x a := ⟨by rw [y19, z5], by rw [z5]; have := at0.2.1; omega, by rw [y20, z6], by rw [z6]; exact at0.2.2.2.1, by rw [zx]; exact at0.2.2.2.2.1, by rw [zx, z5]; have := at0.2.2.2.2.2; omega⟩
      obtain ⟨V', W', y', e1, e2, o1, o2, o3, o4, o5⟩ := ih V1 W1 r x a (1 - u) (cnt + 1) (by omega) ⟨ts, rd_cx_f cx F1, re_cx_f kx G1, z8, y21, at1⟩ (by rw [z7, h7]) (by rw [zx, z5]; have := at0.2.2.2.2.2; omega) (by rw [z5]; omega) (by rw [z5]; omega)
      refine ⟨V', W', y', C1.trans e1, R1.trans e2, rd_fr_t F1 o1, re_fr_t G1 o2, by rw [o3, z7], o4, fun q => ?_⟩
      obtain ⟨g1, g2, g3, g4, g5, g6, A, ⟨k, C, k1, k2, k3, k4⟩, g8⟩ := o5 q
      rw [z5] at g3 g5 k1 k2 k3
      rw [zx] at g4 g5 g6 g8
      refine ⟨h8, g2, by omega, by omega, by omega, fun z hz => by rw [g6 z hz, zx], A, ⟨k + 1, C, fun m hm => ?_, ?_, ?_, ?_⟩, g8⟩
      · cases m with
        | zero => rw [Int.natCast_zero, Int.add_zero]; exact c7
        | succ m =>
          have := k1 m (by omega)
          rw [show V r 5 0 + ((m + 1 : Nat) : Int) = V r 5 0 + 1 + (m : Int) by omega]
          exact this
      · rw [show V r 5 0 + ((k + 1 : Nat) : Int) = V r 5 0 + 1 + (k : Int) by omega]; exact k2
      · rw [show V r 5 0 + ((k + 1 : Nat) : Int) = V r 5 0 + 1 + (k : Int) by omega]; exact k3
      · rw [k4]
        have e9 : d_tw k (1 - u) = d_tw (k + 1) u := by
          unfold d_tw
          by_cases q : k % 2 = 0
          · rw [if_pos q, if_neg (by omega)]
          · rw [if_neg q, if_pos (by omega)]; omega
        rw [e9]
    · have n7 : cd (V r 5 0) ≠ 7 := fun q => h14 ((tk_not T1).mpr q)
      obtain ⟨V', W', y', e1, e2, ho⟩ := rd_main (D := D) ts hd hT hlev hu hi h7 hsz
      refine ⟨V', W', y', c_4_go cx (fun _ _ => h14) e1, (m_2_go kx (fun _ => by rw [a1]; exact n7)).trans e2, ?_⟩
      obtain ⟨o1, o2, o3, o4, o5⟩ := ho
      refine ⟨o1, o2, o3, o4, fun q => ?_⟩
      obtain ⟨g1, g2, g3, g4, g5, g6, A, ⟨B, hB, hA⟩, g8⟩ := o5 q
      refine ⟨g1, g2, g3, g4, g5, g6, A, ⟨0, B, fun m hm => absurd hm (Nat.not_lt_zero m), ?_, ?_, ?_⟩, g8⟩
      · rw [Int.natCast_zero, Int.add_zero]; exact n7
      · rw [Int.natCast_zero, Int.add_zero]; exact hB
      · rw [hA]; rfl
/-- behind a fault a test is nothing -/
theorem c_plain_f (cx : rd_cx o tk pl V r x) (h : V r 8 0 ≠ -1) : ∃ V', f_X5_readPlain_B D rC V r = (V', 0) ∧ rd_fr r x V V' ∧ V' r 8 0 = V r 8 0 ∧ V' r 7 0 = V r 7 0 := by
  obtain ⟨V1, e1, f1, g8, g7⟩ := c_sum_f (D := 8) cx h
  have n8 : V1 r 8 0 ≠ -1 := by rw [g8]; exact h
  have e2 := c_37s (D := D) (rC := rC) (u := 0) cx (c_seen_f h) (by decide) e1 f1 (fun q => absurd q n8)
  rw [c_fail_f n8] at e2
  refine ⟨V1, ?_, f1, g8, g7⟩
  unfold f_X5_readPlain_B
  exact c_4_go cx (fun _ q => absurd q h) e2
theorem m_plain_f (k : re_cx o cd vl pl W a) (h : W a 21 0 ≠ -1) : f_X12_readPlain_B d rR W a lev = (W, 0) := by
  unfold f_X12_readPlain_B
  rw [m_2_go k (fun q => absurd q h), m_2_f k h]
/-- a plain test is read the same way -/
theorem rd_plain (ts : rd_ts tk pl cd vl N) (hd : d ≤ 8) (hT : ∀ d', d = d' + 1 → rd_ok o tk pl cd vl N (8 - (d' : Int)) 20 (D_test o cd vl d') rC rR) : rd_ok o tk pl cd vl N (8 - (d : Int)) 20 (D_plainF cd (D_pos o cd vl d)) (f_X5_readPlain_B D rC) (f_X12_readPlain_B d rR) := by
  intro V W r x a cx kx h7 hf hat
  by_cases h8 : V r 8 0 = -1
  · have at0 := hat h8
    have hi : rd_in o tk pl cd vl N V W r x a := ⟨ts, cx, kx, h8, hf.trans h8, at0⟩
    obtain ⟨V', W', y', e1, e2, o1, o2, o3, o4, o5⟩ := rd_nots (D := D) ts hd hT rfl (N - V r 5 0).toNat V W r x a 0 0 (Or.inl rfl) hi h7 (by have := at0.2.2.2.2.2; omega) (by omega) at0.2.1.1
    refine ⟨V', 0, W', y', e1, e2, o1, o2, o3, o4, fun q => ?_⟩
    obtain ⟨g1, g2, g3, g4, g5, g6, A, ⟨k, C, k1, k2, k3, k4⟩, g8⟩ := o5 q
    refine ⟨g1, g2, g3, g4, by omega, g6, A, ⟨k, C, k1, k2, k3, ?_⟩, g8⟩
    rw [k4]
    unfold d_nots d_tw
    by_cases q : k % 2 = 0
    · rw [if_pos q, if_pos q, if_pos rfl]
    · rw [if_neg q, if_neg q, if_neg (by decide)]
  · obtain ⟨V', e1, f1, g8, g7⟩ := c_plain_f (D := D) (rC := rC) cx h8
    exact ⟨V', 0, W, 0, e1, m_plain_f kx (by rw [hf]; exact h8), rd_bad f1 re_fr_r g7 g8 hf h8⟩
end QRX
section QRY
variable {V V' V1 V2 V3 V4 W W' W1 : dV} {r x a i t c v o p N lev h h' u cnt s oo : Int} {tk pl cd vl : Int → Int} {D d e : Nat} {P El El' : Int → Int → dn → Prop} {fC rC : dV → Int → dR} {fR rR : dV → Int → Int → dR}
theorem c_setc {y : Int} : f_X10_setCode V x p y = if p < 0 then (V, 0) else if V x 2 0 ≤ p then (V, 0) else (dv_u V x 0 p y, 0) := by
  unfold f_X10_setCode
  by_cases e : p < 0
  · rw [if_pos e, if_pos e]
  · rw [if_neg e, if_neg e, bq]
    by_cases e1 : V x 2 0 ≤ p
    · rw [if_pos e1, if_pos e1]
    · rw [if_neg e1, if_neg e1, bq]
theorem c_setc_f {y : Int} : ∃ V', f_X10_setCode V x p y = (V', 0) ∧ rd_fr r x V V' ∧ ∀ j z, x ≠ r → V' r j z = V r j z := by
  rw [c_setc]
  by_cases e : p < 0
  · exact ⟨V, by rw [if_pos e], rd_fr_r, fun _ _ _ => rfl⟩
  · by_cases e1 : V x 2 0 ≤ p
    · exact ⟨V, by rw [if_neg e, if_pos e1], rd_fr_r, fun _ _ _ => rfl⟩
    · exact ⟨_, by rw [if_neg e, if_neg e1], rd_fr_x (by decide), fun j z k => u_b (Ne.symm k)⟩
theorem c_addJ (hc : c ≠ -1) (h : V x 2 0 + 2 ≤ 400) : ∃ V', f_X10_addJump V x c = (V', V x 2 0 + 1) ∧ rd_fr r x V V' ∧ V' x 2 0 = V x 2 0 + 2 ∧ V' x 0 (V x 2 0) = c ∧ (∀ z, z < V x 2 0 → V' x 0 z = V x 0 z) ∧ ∀ j z, x ≠ r → V' r j z = V r j z := by
  have s1 : dv_u (dv_u V x 0 (V x 2 0) c) x 2 0 (V x 2 0 + 1) x 2 0 = V x 2 0 + 1 := u_e
  refine ⟨dv_u (dv_u (dv_u (dv_u V x 0 (V x 2 0) c) x 2 0 (V x 2 0 + 1)) x 0 (V x 2 0 + 1) 0) x 2 0 (V x 2 0 + 1 + 1), ?_, ?_, ?_, ?_, fun z hz => ?_, fun j z k => ?_⟩
  · unfold f_X10_addJump
    rw [dv_bn2 (c_add hc (by omega)), dv_bn2 (c_add (V := dv_u (dv_u V x 0 (V x 2 0) c) x 2 0 (V x 2 0 + 1)) (by decide) (by rw [s1]; omega)), s1, bq, bq, u_e]
    exact Prod.ext rfl (by show V x 2 0 + 1 + 1 - 1 = _; omega)
  · exact rd_fr_t (rd_fr_t (rd_fr_x (by decide)) (rd_fr_x (by decide))) (rd_fr_t (rd_fr_x (by decide)) (rd_fr_x (by decide)))
  · rw [u_e]; omega
  · rw [u_j (by decide), u_i (by omega), u_j (by decide), u_e]
  · rw [u_j (by decide), u_i (by omega), u_j (by decide), u_i (by omega)]
  · rw [u_b (Ne.symm k), u_b (Ne.symm k), u_b (Ne.symm k), u_b (Ne.symm k)]
-- the class's loop
theorem c_T_end (cx : rd_cx o tk pl V r x) (hn : V r 8 0 = -1 → tk (V r 5 0) ≠ 312 ∧ tk (V r 5 0) ≠ 313) : dv_lp (f_X5_readTest_8b D fC) (V, r, oo, cnt) = ((f_X10_setCode V x oo (V x 2 0)).1, 0) := by
  have e128 : f_X5_readTest_128 D fC V r oo = Sum.inr ((f_X10_setCode V x oo (V x 2 0)).1, 0) := by
    unfold f_X5_readTest_128
    rw [bq, bq, bq, bq2, cx.2.2.1]
  refine dv_lp_e ?_
  rw [f_X5_readTest_8e]
  unfold f_X5_readTest_8c
  by_cases k : 400 ≤ cnt
  · rw [if_pos k, e128]
  · rw [if_neg k]
    by_cases h8 : V r 8 0 = -1
    · rw [dv_bn2 (c_seen cx h8), if_neg (hn h8).1, dv_bn2 (c_seen cx h8), if_pos (hn h8).2, e128]
    · rw [dv_bn2 (c_seen_f h8), if_neg (by decide), dv_bn2 (c_seen_f h8), if_pos (by decide), e128]
theorem c_T_or (cx : rd_cx o tk pl V r x) (hk : cnt < 400) (h8 : V r 8 0 = -1) (ht : tk (V r 5 0) = 312) {y j : Int} (hs : f_X10_setCode (dv_u V r 5 0 (V r 5 0 + 1)) x oo (V x 2 0) = (V2, 0)) (f2 : rd_fr r x V V2) (hj : f_X10_addJump V2 x 3010 = (V3, j)) (hr : fC V3 r = (V4, y)) : dv_lp (f_X5_readTest_8b D fC) (V, r, oo, cnt) = dv_lp (f_X5_readTest_8b D fC) (V4, r, j, cnt + 1) := by
  have c5 := cx.2.2.2.2.1
  have hs' := c_seen cx h8
  rw [ht] at hs'
  refine dv_lp_s ?_
  rw [f_X5_readTest_8e]
  unfold f_X5_readTest_8c f_X5_readTest_122
  rw [if_neg (by omega), dv_bn2 hs', if_pos rfl, dv_bn2 (c_take1 cx h8 ht), if_neg (by decide), bq, bq, bq, u_j (show (3 : Nat) ≠ 5 by decide), cx.2.2.1, u_b c5, dv_bn2 hs, bq, (rd_cx_f cx f2).2.2.1, dv_bn2 hj, dv_bn2 hr, bq]
theorem c_T_and (cx : rd_cx o tk pl V r x) (hk : cnt < 400) (h8 : V r 8 0 = -1) (ht : tk (V r 5 0) = 313) {y j : Int} (hj : f_X10_addJump (dv_u V r 5 0 (V r 5 0 + 1)) x 3009 = (V3, j)) (hr : fC V3 r = (V4, y)) (f4 : rd_fr r x V V4) : dv_lp (f_X5_readTest_8b D fC) (V, r, oo, cnt) = dv_lp (f_X5_readTest_8b D fC) ((f_X10_setCode V4 x j (V4 x 2 0)).1, r, oo, cnt + 1) := by
  have c5 := cx.2.2.2.2.1
  have hs' := c_seen cx h8
  rw [ht] at hs'
  refine dv_lp_s ?_
  rw [f_X5_readTest_8e]
  unfold f_X5_readTest_8c f_X5_readTest_122x2
  rw [if_neg (by omega), dv_bn2 hs', if_neg (by decide), dv_bn2 hs', if_neg (by decide), dv_bn2 (c_take0 cx (fun _ => by rw [ht]; decide)), if_pos rfl, bq, bq, bq, bq, u_j (show (3 : Nat) ≠ 5 by decide), cx.2.2.1, dv_bn2 hj, dv_bn2 hr, bq, bq, bq, (rd_cx_f cx f4).2.2.1, bq2, bq]
-- the reference's loops
theorem m_B_end (k : re_cx o cd vl pl W a) (hc : W a 21 0 = -1 → cd (W a 19 0) ≠ 6) : dv_lp (f_X12_readBoth_5b e fR) (W, a, lev) = (W, 0) := by
  refine dv_lp_e ?_
  rw [f_X12_readBoth_5e]
  unfold f_X12_readBoth_5c
  rw [dv_bn2 (m_take0 k hc), if_pos rfl]
theorem m_B_and (k : re_cx o cd vl pl W a) (w8 : W a 21 0 = -1) (hc : cd (W a 19 0) = 6) {y : Int} (hr : fR (dv_u W a 19 0 (W a 19 0 + 1)) a lev = (W1, y)) : dv_lp (f_X12_readBoth_5b e fR) (W, a, lev) = dv_lp (f_X12_readBoth_5b e fR) (W1, a, lev) := by
  refine dv_lp_s ?_
  rw [f_X12_readBoth_5e]
  unfold f_X12_readBoth_5c
  rw [dv_bn2 (m_take1 k w8 hc), if_neg (by decide), dv_bn2 hr]
theorem m_T_end (k : re_cx o cd vl pl W a) (hc : W a 21 0 = -1 → cd (W a 19 0) ≠ 5) : dv_lp (f_X12_readTest_5b e fR) (W, a, lev) = (W, 0) := by
  refine dv_lp_e ?_
  rw [f_X12_readTest_5e]
  unfold f_X12_readTest_5c
  rw [dv_bn2 (m_take0 k hc), if_pos rfl]
theorem m_T_or (k : re_cx o cd vl pl W a) (w8 : W a 21 0 = -1) (hc : cd (W a 19 0) = 5) {y : Int} (hr : fR (dv_u W a 19 0 (W a 19 0 + 1)) a lev = (W1, y)) : dv_lp (f_X12_readTest_5b e fR) (W, a, lev) = dv_lp (f_X12_readTest_5b e fR) (W1, a, lev) := by
  refine dv_lp_s ?_
  rw [f_X12_readTest_5e]
  unfold f_X12_readTest_5c
  rw [dv_bn2 (m_take1 k w8 hc), if_neg (by decide), dv_bn2 hr]
theorem tk_oa (T : rd_tk t c v) : (t = 312 ↔ c = 5) ∧ (t = 313 ↔ c = 6) := by unfold rd_tk rd_wp at T; omega
-- what has been read so far
def rt_pd (X : Int → Int) (p0 q oo : Int) (cb : dn → dn) (T : dn) : Prop := (oo = -1 ∧ (cb = fun T' => T') ∧ K_seg X p0 q T 20) ∨ ∃ (m : Int) (S : dn), 0 ≤ m ∧ oo = m + 1 ∧ X m = 3010 ∧ (cb = fun T' => d_or S T') ∧ K_seg X p0 m S 20 ∧ K_seg X (m + 2) q T 20
theorem rt_pd_and {X X' : Int → Int} {p0 q q1 oo : Int} {cb : dn → dn} {T B : dn} (h : rt_pd X p0 q oo cb T) (hX : ∀ z, z < q → X' z = X z) (hc : X' q = 3009) (hj : X' (q + 1) = q1) (hB : K_seg X' (q + 2) q1 B 20) : rt_pd X' p0 q1 oo cb (d_and T B) := by
  rcases h with ⟨h1, h2, h3⟩ | ⟨m, S, h0, h1, h2, h3, h4, h5⟩
  · exact Or.inl ⟨h1, h2, K_and (K_seg_c h3 (fun z _ z1 => hX z z1)) hB hc hj (by omega) (by omega)⟩
  · have := h5.1
    exact Or.inr ⟨m, S, h0, h1, by rw [hX m (by omega), h2], h3, K_seg_c h4 (fun z _ z1 => hX z (by omega)), K_and (K_seg_c h5 (fun z _ z1 => hX z z1)) hB hc hj (by omega) (by omega)⟩
theorem rt_close {p0 : Int} {cb : dn → dn} {T : dn} (c5 : x ≠ r) (h : rt_pd (V x 0) p0 (V x 2 0) oo cb T) : ∃ V', f_X10_setCode V x oo (V x 2 0) = (V', 0) ∧ rd_fr r x V V' ∧ (∀ j z, V' r j z = V r j z) ∧ V' x 2 0 = V x 2 0 ∧ (∀ z, z < p0 → V' x 0 z = V x 0 z) ∧ K_seg (V' x 0) p0 (V' x 2 0) (cb T) 20 := by
  rw [c_setc]
  rcases h with ⟨h1, h2, h3⟩ | ⟨m, S, h0, h1, h2, h3, h4, h5⟩
  · exact ⟨V, by rw [if_pos (by omega)], rd_fr_r, fun _ _ => rfl, rfl, fun _ _ => rfl, by rw [h2]; exact h3⟩
  · have := h5.1
    have := h4.1
    have v2 : dv_u V x 0 oo (V x 2 0) x 2 0 = V x 2 0 := u_j (by decide)
    have vz : ∀ z, z ≠ m + 1 → dv_u V x 0 oo (V x 2 0) x 0 z = V x 0 z := fun z hz => u_i (by omega)
    refine ⟨_, by rw [if_neg (by omega), if_neg (by omega)], rd_fr_x (by decide), fun j z => u_b (Ne.symm c5), v2, fun z hz => vz z (by omega), ?_⟩
    rw [v2, h3]
    refine K_or (K_seg_c h4 (fun z _ z1 => vz z (by omega))) (K_seg_c h5 (fun z z0 _ => vz z (by omega))) (by rw [vz m (by omega), h2]) ?_ (by omega) (by omega)
    rw [← h1, u_e]
def TB (cd : Int → Int) (P : Int → Int → dn → Prop) (i j : Int) (A : dn) : Prop := ∃ (m : Int) (B : dn) (n : Nat), P i m B ∧ d_ch (fun c => c = 6) cd P (fun _ => d_and) n m B j A
def TT (cd : Int → Int) (P : Int → Int → dn → Prop) (i j : Int) (A : dn) : Prop := ∃ (m : Int) (B : dn) (n : Nat), TB cd P i m B ∧ d_ch (fun c => c = 5) cd (TB cd P) (fun _ => d_or) n m B j A
def rt_g (cd : Int → Int) (P : Int → Int → dn → Prop) (i0 : Int) (cb : dn → dn) (T : dn) (i : Int) : Prop := ∀ (n : Nat) (j : Int) (T' : dn), d_ch (fun c => c = 6) cd P (fun _ => d_and) n i T j T' → ∀ (n' : Nat) (k : Int) (R : dn), d_ch (fun c => c = 5) cd (TB cd P) (fun _ => d_or) n' j (cb T') k R → TT cd P i0 k R
theorem rt_g_start {i0 : Int} {T : dn} (h : P i0 i T) : rt_g cd P i0 (fun T' => T') T i := fun n j T' h1 n' k R h2 => ⟨j, T', n', ⟨i, T, n, h, h1⟩, h2⟩
theorem rt_g_and {i0 m : Int} {cb : dn → dn} {T B : dn} (h : rt_g cd P i0 cb T i) (hm : cd i = 6) (hB : P (i + 1) m B) : rt_g cd P i0 cb (d_and T B) m := fun n j T' h1 => h (n + 1) j T' ⟨hm, m, B, hB, h1⟩
theorem rt_g_or {i0 m : Int} {cb : dn → dn} {T B : dn} (h : rt_g cd P i0 cb T i) (ha : cd i = 5) (hB : P (i + 1) m B) : rt_g cd P i0 (fun T' => d_or (cb T) T') B m := fun n j T' h1 n' k R h2 => h 0 i T ⟨rfl, rfl, fun q => by have q : cd i = 6 := q; omega⟩ (n' + 1) k R ⟨ha, j, T', ⟨m, B, n, hB, h1⟩, h2⟩
theorem rt_g_end {i0 : Int} {cb : dn → dn} {T : dn} (h : rt_g cd P i0 cb T i) (hm : cd i ≠ 6) (ha : cd i ≠ 5) : TT cd P i0 i (cb T) := h 0 i T ⟨rfl, rfl, hm⟩ 0 i (cb T) ⟨rfl, rfl, ha⟩
/-- behind a fault the loops end -/
theorem rt_F (cx : rd_cx o tk pl V r x) (kx : re_cx o cd vl pl W a) (h8 : V r 8 0 ≠ -1) (w8 : W a 21 0 ≠ -1) : ∃ V', dv_lp (f_X5_readTest_8b D fC) (V, r, oo, cnt) = (V', 0) ∧ dv_lp (f_X12_readBoth_5b e fR) (W, a, lev) = (W, 0) ∧ dv_lp (f_X12_readTest_5b e (f_X12_readBoth_B e fR)) (W, a, lev) = (W, 0) ∧ rd_fr r x V V' ∧ ∀ j z, V' r j z = V r j z := by
  obtain ⟨V', e1, f1, g1⟩ := c_setc_f (V := V) (x := x) (p := oo) (y := V x 2 0) (r := r)
  refine ⟨V', ?_, m_B_end kx (fun q => absurd q w8), m_T_end kx (fun q => absurd q w8), f1, fun j z => g1 j z cx.2.2.2.2.1⟩
  rw [c_T_end cx (fun q => absurd q h8), e1]
end QRY
end
section
section QRZ
variable {V V' V1 V2 V3 V4 W W' W1 : dV} {r x a i t c v o p N lev h h' u cnt s oo : Int} {tk pl cd vl : Int → Int} {D d e : Nat} {P El El' : Int → Int → dn → Prop} {fC rC : dV → Int → dR} {fR rR : dV → Int → Int → dR}
theorem rt_L (ts : rd_ts tk pl cd vl N) (hP : rd_ok o tk pl cd vl N lev 20 P fC fR) (n : Nat) : ∀ (V W : dV) (r x a oo cnt p0 i0 : Int) (cb : dn → dn) (T : dn), rd_in o tk pl cd vl N V W r x a → V r 7 0 = lev → N - V r 5 0 ≤ n → cnt < V r 5 0 → p0 < V x 2 0 → rt_pd (V x 0) p0 (V x 2 0) oo cb T → rt_g cd P i0 cb T (V r 5 0) → ∃ (V' : dV) (y : Int) (W1 : dV) (y1 : Int) (W' : dV) (y' : Int), dv_lp (f_X5_readTest_8b D fC) (V, r, oo, cnt) = (V', y) ∧ dv_lp (f_X12_readBoth_5b e fR) (W, a, lev) = (W1, y1) ∧ dv_lp (f_X12_readTest_5b e (f_X12_readBoth_B e fR)) (W1, a, lev) = (W', y') ∧ rd_fr r x V V' ∧ re_fr a W W' ∧ V' r 7 0 = V r 7 0 ∧ W' a 21 0 = V' r 8 0 ∧ (V' r 8 0 = -1 → rd_at pl N V' W' r x a ∧ V r 5 0 ≤ V' r 5 0 ∧ V x 2 0 ≤ V' x 2 0 ∧ V' x 2 0 - V x 2 0 ≤ pl (V' r 5 0) - pl (V r 5 0) ∧ (∀ z, z < p0 → V' x 0 z = V x 0 z) ∧ ∃ A, TT cd P i0 (V' r 5 0) A ∧ K_seg (V' x 0) p0 (V' x 2 0) A 20) := by
  induction n using Nat.strongRecOn with
  | ind n ih =>
  intro V W r x a oo cnt p0 i0 cb T hi h7 hn hk hp pd g
  obtain ⟨T1, T2⟩ := rd_tT hi
  have hiN := rd_iN hi
  obtain ⟨-, cx, kx, h8, w8, at0⟩ := id hi
  obtain ⟨a1, a2, a3, a4, a5, a6⟩ := id at0
  have c5 := cx.2.2.2.2.1
  have tN := ts.1
  obtain ⟨tO, tA⟩ := tk_oa T1
  have F1 : rd_fr r x V (dv_u V r 5 0 (V r 5 0 + 1)) := rd_fr_u (by decide)
  have G1 : re_fr a W (dv_u W a 19 0 (W a 19 0 + 1)) := re_fr_u (by decide)
  have z5 : dv_u V r 5 0 (V r 5 0 + 1) r 5 0 = V r 5 0 + 1 := u_e
  have z6 : dv_u V r 5 0 (V r 5 0 + 1) r 6 0 = V r 6 0 := u_j (by decide)
  have z7 : dv_u V r 5 0 (V r 5 0 + 1) r 7 0 = V r 7 0 := u_j (by decide)
  have z8 : dv_u V r 5 0 (V r 5 0 + 1) r 8 0 = -1 := by rw [u_j (by decide), h8]
  have zx : ∀ m z, dv_u V r 5 0 (V r 5 0 + 1) x m z = V x m z := fun m z => u_b c5
  have zxf : dv_u V r 5 0 (V r 5 0 + 1) x 0 = V x 0 := funext (fun z => zx 0 z)
  have y19 : dv_u W a 19 0 (W a 19 0 + 1) a 19 0 = V r 5 0 + 1 := by rw [u_e, a1]
  have y20 : dv_u W a 19 0 (W a 19 0 + 1) a 20 0 = V r 6 0 := by rw [u_j (by decide), a3]
  have y21 : dv_u W a 19 0 (W a 19 0 + 1) a 21 0 = -1 := by rw [u_j (by decide), w8]
  by_cases hm : cd (V r 5 0) = 6
  · -- and
    have ht := tA.mpr hm
    obtain ⟨i1, p1, S1, q1⟩ := hiN (by omega)
    have w3 : rd_w (tk (V r 5 0)) = 3 := by rw [ht]; rfl
    have C1 := fun (V3 V4 : dV) (y j : Int) => c_T_and (V3 := V3) (V4 := V4) (D := D) (fC := fC) (oo := oo) (cnt := cnt) (y := y) (j := j) cx (by omega) h8 ht
    have R1 := fun (W2 : dV) (y : Int) => m_B_and (W1 := W2) (e := e) (fR := fR) (lev := lev) (y := y) kx w8 (by rw [a1]; exact hm)
    generalize dv_u V r 5 0 (V r 5 0 + 1) = V1 at F1 z5 z6 z7 z8 zx zxf C1
    generalize dv_u W a 19 0 (W a 19 0 + 1) = W1 at G1 y19 y20 y21 R1
    obtain ⟨V3, ej, fj, j2, jc, jz, jr⟩ := c_addJ (V := V1) (x := x) (r := r) (c := 3009) (by decide) (by rw [zx]; omega)
    have jr : ∀ j z, V3 r j z = V1 r j z := fun j z => jr j z c5
    rw [zx] at ej j2 jc jz
    have F3 := rd_fr_t F1 fj
    have at3 : rd_at pl N V3 W1 r x a := ⟨by rw [y19, jr, z5], by rw [jr, z5]; omega, by rw [y20, jr, z6], by rw [jr, z6]; exact a4, by rw [j2]; omega, by rw [j2, jr, z5]; omega⟩
    obtain ⟨V4, y, W2, y', e1, e2, o1, o2, o3, o4, o5⟩ := hP V3 W1 r x a (rd_cx_f cx F3) (re_cx_f kx G1) (by rw [jr, z7, h7]) (by rw [y21, jr, z8]) (fun _ => at3)
    have F4 := rd_fr_t F3 o1
    have G2 := re_fr_t G1 o2
    have C2 := C1 V3 V4 y (V x 2 0 + 1) ej e1 F4
    have R2 := R1 W2 y' e2
    have cx4 := rd_cx_f cx F4
    have kx2 := re_cx_f kx G2
    by_cases g8 : V4 r 8 0 = -1
    · obtain ⟨p8, at4, p5, px, pp, pz, B, pB, pK⟩ := o5 g8
      obtain ⟨b1, b2, b3, b4, b5, b6⟩ := id at4
      rw [jr, z5] at p5 pp pB
      rw [j2] at px pp pz pK
      rw [c_setc, if_neg (by omega), if_neg (by omega)] at C2
      dsimp only at C2
      have F5 : rd_fr r x V (dv_u V4 x 0 (V x 2 0 + 1) (V4 x 2 0)) := rd_fr_t F4 (rd_fr_x (by decide))
      have vr : ∀ m z, dv_u V4 x 0 (V x 2 0 + 1) (V4 x 2 0) r m z = V4 r m z := fun m z => u_b (Ne.symm c5)
      have v2 : dv_u V4 x 0 (V x 2 0 + 1) (V4 x 2 0) x 2 0 = V4 x 2 0 := u_j (by decide)
      have vj : dv_u V4 x 0 (V x 2 0 + 1) (V4 x 2 0) x 0 (V x 2 0 + 1) = V4 x 2 0 := u_e
      have vz : ∀ z, z ≠ V x 2 0 + 1 → dv_u V4 x 0 (V x 2 0 + 1) (V4 x 2 0) x 0 z = V4 x 0 z := fun z hz => u_i hz
      generalize dv_u V4 x 0 (V x 2 0 + 1) (V4 x 2 0) = V5 at C2 F5 vr v2 vj vz
      have at5 : rd_at pl N V5 W2 r x a := ⟨by rw [vr]; exact b1, by rw [vr]; exact b2, by rw [vr]; exact b3, by rw [vr]; exact b4, by rw [v2]; omega, by rw [v2, vr]; exact b6⟩
      have pd5 : rt_pd (V5 x 0) p0 (V5 x 2 0) oo cb (d_and T B) := by
        rw [v2]
        exact rt_pd_and pd (fun z z1 => by rw [vz z (by omega), pz z (by omega), jz z z1, zx]) (by rw [vz _ (by omega), pz _ (by omega), jc]) vj (K_seg_c pK (fun z z0 _ => vz z (by omega)))
      obtain ⟨V', u, Wt, ut, W', u', L1, L2, L3, L4, L5, L6, L7, L8⟩ := ih (n - 1) (by omega) V5 W2 r x a oo (cnt + 1) p0 i0 cb (d_and T B) ⟨ts, rd_cx_f cx F5, kx2, by rw [vr]; exact g8, o4.trans g8, at5⟩ (by rw [vr, o3, jr, z7, h7]) (by rw [vr]; omega) (by rw [vr]; omega) (by rw [v2]; omega) pd5 (by rw [vr]; exact rt_g_and g hm pB)
      refine ⟨V', u, Wt, ut, W', u', C2.trans L1, R2.trans L2, L3, rd_fr_t F5 L4, re_fr_t G2 L5, by rw [L6, vr, o3, jr, z7], L7, fun q => ?_⟩
      obtain ⟨M1, M2, M3, M4, M5, M6⟩ := L8 q
      rw [vr] at M2 M4
      rw [v2] at M3 M4
      exact ⟨M1, by omega, by omega, by omega, fun z hz => by rw [M5 z hz, vz z (by omega), pz z (by omega), jz z (by omega), zx], M6⟩
    · obtain ⟨V5, e5, f5, vr⟩ := c_setc_f (V := V4) (x := x) (p := V x 2 0 + 1) (y := V4 x 2 0) (r := r)
      have vr : ∀ j z, V5 r j z = V4 r j z := fun j z => vr j z c5
      rw [e5] at C2
      dsimp only at C2
      obtain ⟨V', L1, L2, L3, L4, L5⟩ := rt_F (D := D) (e := e) (fC := fC) (fR := fR) (lev := lev) (oo := oo) (cnt := cnt + 1) (rd_cx_f cx4 f5) kx2 (by rw [vr]; exact g8) (by rw [o4]; exact g8)
      refine ⟨V', 0, W2, 0, W2, 0, C2.trans L1, R2.trans L2, L3, rd_fr_t F4 (rd_fr_t f5 L4), G2, by rw [L5, vr, o3, jr, z7], by rw [L5, vr, o4], fun q => ?_⟩
      rw [L5, vr] at q
      exact absurd q g8
  · by_cases ha : cd (V r 5 0) = 5
    · -- or
      have ht := tO.mpr ha
      obtain ⟨i1, p1, S1, q1⟩ := hiN (by omega)
      have w2 : rd_w (tk (V r 5 0)) = 2 := by rw [ht]; rfl
      have C1 := fun (V2 V3 V4 : dV) (y j : Int) => c_T_or (V2 := V2) (V3 := V3) (V4 := V4) (D := D) (fC := fC) (oo := oo) (cnt := cnt) (y := y) (j := j) cx (by omega) h8 ht
      have R1 := fun (W2 : dV) (y : Int) => m_T_or (W1 := W2) (e := e) (fR := f_X12_readBoth_B e fR) (lev := lev) (y := y) kx w8 (by rw [a1]; exact ha)
      have Re := m_B_end (W := W) (e := e) (fR := fR) (lev := lev) kx (fun _ => by rw [a1]; exact hm)
      generalize dv_u V r 5 0 (V r 5 0 + 1) = V1 at F1 z5 z6 z7 z8 zx zxf C1
      generalize dv_u W a 19 0 (W a 19 0 + 1) = W1 at G1 y19 y20 y21 R1
      obtain ⟨V2, ec, fc, vcr, vc2, vcz, vcK⟩ := rt_close (V := V1) (r := r) (p0 := p0) (cb := cb) (T := T) (oo := oo) c5 (by rw [zx, zxf]; exact pd)
      rw [zx] at vc2 ec
      obtain ⟨V3, ej, fj, j2, jc, jz, jr⟩ := c_addJ (V := V2) (x := x) (r := r) (c := 3010) (by decide) (by rw [vc2]; omega)
      have jr : ∀ j z, V3 r j z = V2 r j z := fun j z => jr j z c5
      rw [vc2] at ej j2 jc jz vcK
      have F2 := rd_fr_t F1 fc
      have F3 := rd_fr_t F2 fj
      have at3 : rd_at pl N V3 W1 r x a := ⟨by rw [y19, jr, vcr, z5], by rw [jr, vcr, z5]; omega, by rw [y20, jr, vcr, z6], by rw [jr, vcr, z6]; exact a4, by rw [j2]; omega, by rw [j2, jr, vcr, z5]; omega⟩
      obtain ⟨V4, y, W2, y', e1, e2, o1, o2, o3, o4, o5⟩ := hP V3 W1 r x a (rd_cx_f cx F3) (re_cx_f kx G1) (by rw [jr, vcr, z7, h7]) (by rw [y21, jr, vcr, z8]) (fun _ => at3)
      have F4 := rd_fr_t F3 o1
      have G2 := re_fr_t G1 o2
      have C2 := C1 V2 V3 V4 y (V x 2 0 + 1) ec F2 ej e1
      have cx4 := rd_cx_f cx F4
      have kx2 := re_cx_f kx G2
      have RT : f_X12_readBoth_B e fR W1 a lev = dv_lp (f_X12_readBoth_5b e fR) (W2, a, lev) := by
        unfold f_X12_readBoth_B
        rw [dv_bn2 e2]
      by_cases g8 : V4 r 8 0 = -1
      · obtain ⟨p8, at4, p5, px, pp, pz, B, pB, pK⟩ := o5 g8
        obtain ⟨b1, b2, b3, b4, b5, b6⟩ := id at4
        rw [jr, vcr, z5] at p5 pp pB
        rw [j2] at px pp pz pK
        have pd4 : rt_pd (V4 x 0) p0 (V4 x 2 0) (V x 2 0 + 1) (fun T' => d_or (cb T) T') B := Or.inr ⟨V x 2 0, cb T, a5, rfl, by rw [pz _ (by omega), jc], rfl, K_seg_c vcK (fun z _ z1 => by rw [pz z (by omega), jz z z1]), pK⟩
        obtain ⟨V', u, Wt, ut, W', u', L1, L2, L3, L4, L5, L6, L7, L8⟩ := ih (n - 1) (by omega) V4 W2 r x a (V x 2 0 + 1) (cnt + 1) p0 i0 (fun T' => d_or (cb T) T') B ⟨ts, cx4, kx2, g8, o4.trans g8, at4⟩ (by rw [o3, jr, vcr, z7, h7]) (by omega) (by omega) (by omega) pd4 (rt_g_or g ha pB)
        refine ⟨V', u, W, 0, W', u', C2.trans L1, Re, (R1 Wt ut (RT.trans L2)).trans L3, rd_fr_t F4 L4, re_fr_t G2 L5, by rw [L6, o3, jr, vcr, z7], L7, fun q => ?_⟩
        obtain ⟨M1, M2, M3, M4, M5, M6⟩ := L8 q
        exact ⟨M1, by omega, by omega, by omega, fun z hz => by rw [M5 z hz, pz z (by omega), jz z (by omega), vcz z hz, zx], M6⟩
      · obtain ⟨V', L1, L2, L3, L4, L5⟩ := rt_F (D := D) (e := e) (fC := fC) (fR := fR) (lev := lev) (oo := V x 2 0 + 1) (cnt := cnt + 1) cx4 kx2 g8 (by rw [o4]; exact g8)
        refine ⟨V', 0, W, 0, W2, 0, C2.trans L1, Re, (R1 W2 0 (RT.trans L2)).trans L3, rd_fr_t F4 L4, G2, by rw [L5, o3, jr, vcr, z7], by rw [L5, o4], fun q => ?_⟩
        rw [L5] at q
        exact absurd q g8
    · -- the end of the TEST
      have e8 := c_T_end (D := D) (fC := fC) (oo := oo) (cnt := cnt) cx (fun _ => ⟨fun q => ha (tO.mp q), fun q => hm (tA.mp q)⟩)
      obtain ⟨V', ec, fc, vcr, vc2, vcz, vcK⟩ := rt_close (V := V) (r := r) (p0 := p0) (cb := cb) (T := T) (oo := oo) c5 pd
      rw [ec] at e8
      refine ⟨V', 0, W, 0, W, 0, e8, m_B_end kx (fun _ => by rw [a1]; exact hm), m_T_end kx (fun _ => by rw [a1]; exact ha), fc, re_fr_r, vcr 7 0, by rw [vcr, h8, w8], fun _ => ?_⟩
      rw [vcr]
      exact ⟨⟨by rw [vcr]; exact a1, by rw [vcr]; exact a2, by rw [vcr]; exact a3, by rw [vcr]; exact a4, by rw [vc2]; exact a5, by rw [vc2, vcr]; exact a6⟩, by omega, by rw [vc2]; omega, by rw [vc2]; omega, vcz, cb T, rt_g_end g hm ha, vcK⟩
theorem rd_testB (ts : rd_ts tk pl cd vl N) (hP : rd_ok o tk pl cd vl N lev 20 P fC fR) : rd_ok o tk pl cd vl N lev 20 (TT cd P) (f_X5_readTest_B D fC) (f_X12_readTest_B e (f_X12_readBoth_B e fR)) := by
  intro V W r x a cx kx h7 hf hat
  obtain ⟨V1, y, W1, y', e1, e2, o1, o2, o3, o4, o5⟩ := hP V W r x a cx kx h7 hf hat
  have cx1 := rd_cx_f cx o1
  have kx1 := re_cx_f kx o2
  have E1 : f_X5_readTest_B D fC V r = dv_lp (f_X5_readTest_8b D fC) (V1, r, -1, 0) := by
    unfold f_X5_readTest_B
    rw [dv_bn2 e1]
  have E2 : f_X12_readBoth_B e fR W a lev = dv_lp (f_X12_readBoth_5b e fR) (W1, a, lev) := by
    unfold f_X12_readBoth_B
    rw [dv_bn2 e2]
  have E3 : ∀ {W2 : dV} {y2 : Int}, dv_lp (f_X12_readBoth_5b e fR) (W1, a, lev) = (W2, y2) → f_X12_readTest_B e (f_X12_readBoth_B e fR) W a lev = dv_lp (f_X12_readTest_5b e (f_X12_readBoth_B e fR)) (W2, a, lev) := by
    intro W2 y2 q
    unfold f_X12_readTest_B
    rw [dv_bn2 (E2.trans q)]
  by_cases g8 : V1 r 8 0 = -1
  · obtain ⟨p8, at1, p5, px, pp, pz, A, pA, pK⟩ := o5 g8
    have a2 := (hat p8).2.1
    obtain ⟨V', u, Wt, ut, W', u', L1, L2, L3, L4, L5, L6, L7, L8⟩ := rt_L (D := D) (e := e) ts hP (N - V1 r 5 0).toNat V1 W1 r x a (-1) 0 (V x 2 0) (V r 5 0) (fun T' => T') A ⟨ts, cx1, kx1, g8, o4.trans g8, at1⟩ (by rw [o3, h7]) (by omega) (by omega) px (Or.inl ⟨rfl, rfl, pK⟩) (rt_g_start pA)
    refine ⟨V', u, W', u', E1.trans L1, (E3 L2).trans L3, rd_fr_t o1 L4, re_fr_t o2 L5, by rw [L6, o3], L7, fun q => ?_⟩
    obtain ⟨M1, M2, M3, M4, M5, M6⟩ := L8 q
    exact ⟨p8, M1, by omega, by omega, by omega, fun z hz => by rw [M5 z hz, pz z hz], M6⟩
  · obtain ⟨V', L1, L2, L3, L4, L5⟩ := rt_F (D := D) (e := e) (fC := fC) (fR := fR) (lev := lev) (oo := -1) (cnt := 0) cx1 kx1 g8 (by rw [o4]; exact g8)
    refine ⟨V', 0, W1, 0, E1.trans L1, (E3 L2).trans L3, rd_fr_t o1 L4, o2, by rw [L5, o3], by rw [L5, o4], fun q => ?_⟩
    rw [L5] at q
    exact absurd q g8
/-- a TEST is read the same way -/
theorem rd_test (ts : rd_ts tk pl cd vl N) (d : Nat) : d ≤ 8 → ∀ D, d ≤ D → rd_ok o tk pl cd vl N (8 - (d : Int)) 20 (D_test o cd vl d) (f_X5_readTest D) (f_X12_readTest d) := by
  induction d with
  | zero =>
    intro hd D hD V W r x a cx kx h7 hf hat
    have hP := rd_plain (d := 0) (D := D) (o := o) (rC := dv_pre (fun _ _ => dv_z) f_X5_readTest D) (rR := dv_pre (fun _ _ _ => dv_z) f_X12_readTest 0) ts hd (fun d' q => by omega)
    rw [f_X5_readTest_d, f_X12_readTest_d]
    exact rd_testB (D := D) (e := 0) ts hP V W r x a cx kx h7 hf hat
  | succ d ih =>
    intro hd D hD V W r x a cx kx h7 hf hat
    obtain ⟨D, rfl⟩ : ∃ D', D = D' + 1 := ⟨D - 1, by omega⟩
    have hP := rd_plain (d := d + 1) (D := D + 1) (o := o) (rC := dv_pre (fun _ _ => dv_z) f_X5_readTest (D + 1)) (rR := dv_pre (fun _ _ _ => dv_z) f_X12_readTest (d + 1)) ts hd (fun d' q => by cases q; exact ih (by omega) D (by omega))
    rw [f_X5_readTest_d, f_X12_readTest_d]
    exact rd_testB (D := D + 1) (e := d + 1) ts hP V W r x a cx kx h7 hf hat
end QRZ
section QRC
variable {V V' V1 V2 V3 V4 W W' W1 : dV} {r x a i t c v o p N lev h u s k w y ns j : Int} {tk pl cd vl : Int → Int} {D d e : Nat}
/-- the reader, its text and the marks of its clause k have changed -/
def rk_fr (k r x : Int) (V V' : dV) : Prop := ∀ b m z, ¬ (b = r ∧ (m = 5 ∨ m = 6 ∨ m = 7 ∨ m = 8)) → ¬ (b = x ∧ (m = 0 ∨ m = 2)) → ¬ (b = x ∧ m = 1 ∧ (k - 1) * 8 ≤ z ∧ z < k * 8) → V' b m z = V b m z
theorem rk_fr_d (f : rd_fr r x V V') : rk_fr k r x V V' := fun b m z k1 k2 _ => f b m z k1 k2
theorem rk_fr_r : rk_fr k r x V V := fun _ _ _ _ _ _ => rfl
theorem rk_fr_t (f : rk_fr k r x V V') (g : rk_fr k r x V' V1) : rk_fr k r x V V1 := fun b m z k1 k2 k3 => (g b m z k1 k2 k3).trans (f b m z k1 k2 k3)
theorem rk_fr_m (h0 : 0 ≤ w) (h8 : w < 8) : rk_fr k r x V (dv_u V x 1 ((k - 1) * 8 + w) y) := fun b m z _ _ k3 => by
  unfold dv_u
  rw [if_neg (fun q => k3 ⟨q.1, q.2.1, by have := q.2.2; omega, by have := q.2.2; omega⟩)]
theorem rk_cx_f (c : rd_cx o tk pl V r x) (f : rk_fr k r x V V') : rd_cx o tk pl V' r x := by
  obtain ⟨h1, h2, h3, h4, h5, h6⟩ := c
  have q : ∀ (j : Nat) (z : Int), j < 5 → V' r j z = V r j z := fun j z hj => f r j z (fun q => by omega) (fun q => h5 q.1.symm) (fun q => h5 q.1.symm)
  exact ⟨fun z => by rw [q 0 z (by decide)]; exact h1 z, fun z => by rw [q 1 z (by decide)]; exact h2 z, by rw [q 3 0 (by decide)]; exact h3, by rw [q 4 0 (by decide)]; exact h4, h5, h6⟩
theorem rk_3 (c5 : x ≠ r) (f : rk_fr k r x V V') : V' x 3 0 = V x 3 0 := f x 3 0 (fun q => c5 q.1) (fun q => by have := q.2; omega) (fun q => absurd q.2.1 (by decide))
theorem rd_x1 (c5 : x ≠ r) (f : rd_fr r x V V') {z : Int} : V' x 1 z = V x 1 z := f x 1 z (fun q => c5 q.1) (fun q => by have := q.2; omega)
theorem c_setm (h3 : V x 3 0 = k) (k1 : 1 ≤ k) (k12 : k ≤ 12) (h0 : 0 ≤ w) (h8 : w < 8) : f_X10_setMark V x w y = (dv_u V x 1 ((k - 1) * 8 + w) y, 0) := by
  unfold f_X10_setMark
  rw [bq, h3, bq, bq, bq, if_neg (by omega), bq, if_neg (by omega), bq]
/-- where a sum of the clause ends -/
theorem c_65 (cx : rd_cx o tk pl V r x) (h3 : V x 3 0 = k) (k1 : 1 ≤ k) (k12 : k ≤ 12) (j0 : 0 ≤ j) (j2 : j ≤ 2) : f_X5_readSums_65 V r ns j = Sum.inl (dv_u V x 1 ((k - 1) * 8 + (3 + j)) (V x 2 0), r, ns, j + 1) := by
  unfold f_X5_readSums_65
  rw [bq, bq, bq, bq, cx.2.2.1, dv_bn2 (c_setm h3 k1 k12 (by omega) (by omega)), bq]
/-- no sum there -/
theorem c_17n (cx : rd_cx o tk pl V r x) (h3 : V x 3 0 = k) (k1 : 1 ≤ k) (k12 : k ≤ 12) (j0 : 0 ≤ j) (j2 : j ≤ 2) (hn : ns ≤ j) : dv_lp f_X5_readSums_17b (V, r, ns, j) = dv_lp f_X5_readSums_17b (dv_u V x 1 ((k - 1) * 8 + (3 + j)) (V x 2 0), r, ns, j + 1) := by
  refine dv_lp_s ?_
  rw [f_X5_readSums_17e]
  unfold f_X5_readSums_17c f_X5_readSums_56
  rw [if_neg (by omega)]
  by_cases e : j ≤ 0
  · rw [if_pos e, if_pos hn, c_65 cx h3 k1 k12 j0 j2]
  · rw [if_neg e, if_pos hn, if_pos hn, c_65 cx h3 k1 k12 j0 j2]
/-- the first sum -/
theorem c_17s (cx1 : rd_cx o tk pl V1 r x) (h3 : V1 x 3 0 = k) (k1 : 1 ≤ k) (k12 : k ≤ 12) (hn : 0 < ns) (hr : f_X5_readSum 8 V r = (V1, y)) : dv_lp f_X5_readSums_17b (V, r, ns, 0) = dv_lp f_X5_readSums_17b (dv_u V1 x 1 ((k - 1) * 8 + 3) (V1 x 2 0), r, ns, 1) := by
  refine dv_lp_s ?_
  rw [f_X5_readSums_17e]
  unfold f_X5_readSums_17c f_X5_readSums_56
  rw [if_neg (by omega), if_pos (by omega), if_neg (by omega), dv_bn2 hr, c_65 cx1 h3 k1 k12 (by omega) (by omega)]
  rfl
/-- a further sum, behind "at" or "by" -/
theorem c_17m {b : Int} (cx2 : rd_cx o tk pl V2 r x) (h3 : V2 x 3 0 = k) (k1 : 1 ≤ k) (k12 : k ≤ 12) (j0 : 1 ≤ j) (j2 : j ≤ 2) (hn : j < ns) (ht : f_X5_take V r (if j = 1 then 310 else 311) = (V', b)) (hr : f_X5_readSum 8 (if b ≠ 0 then V' else (f_X5_fail V' r).1) r = (V2, y)) : dv_lp f_X5_readSums_17b (V, r, ns, j) = dv_lp f_X5_readSums_17b (dv_u V2 x 1 ((k - 1) * 8 + (3 + j)) (V2 x 2 0), r, ns, j + 1) := by
  have e46 : ∀ q, f_X5_take V r q = (V', b) → f_X5_readSums_46 V r ns j q = Sum.inl (dv_u V2 x 1 ((k - 1) * 8 + (3 + j)) (V2 x 2 0), r, ns, j + 1) := by
    intro q hq
    unfold f_X5_readSums_46 f_X5_readSums_56
    rw [dv_bn2 hq]
    by_cases e : b ≠ 0
    · rw [if_pos e] at hr
      rw [if_pos e, if_neg (by omega), dv_bn2 hr, c_65 cx2 h3 k1 k12 (by omega) j2]
    · rw [if_neg e] at hr
      rw [if_neg e, bq2, if_neg (by omega), dv_bn2 hr, c_65 cx2 h3 k1 k12 (by omega) j2]
  refine dv_lp_s ?_
  rw [f_X5_readSums_17e]
  unfold f_X5_readSums_17c
  rw [if_neg (by omega), if_neg (by omega), if_neg (by omega)]
  by_cases e : j = 1
  · rw [if_neg (fun q => q e), e46 _ (by rw [if_pos e] at ht; exact ht)]
  · rw [if_pos e, e46 _ (by rw [if_neg e] at ht; exact ht)]
theorem c_17e (h : 3 ≤ j) : dv_lp f_X5_readSums_17b (V, r, ns, j) = (V, 0) := by
  refine dv_lp_e ?_
  rw [f_X5_readSums_17e]
  unfold f_X5_readSums_17c
  rw [if_pos h]
end QRC
section QRK
variable {V V' V1 V2 V3 V4 W W' W1 : dV} {r x a i t c v o p N lev h u s k w y ns j : Int} {tk pl cd vl : Int → Int} {D d e : Nat}
/-- both have gone on, inside the clause k -/
def rk_go (pl : Int → Int) (N k : Int) (V W : dV) (r x a : Int) (V' W' : dV) : Prop := rk_fr k r x V V' ∧ re_fr a W W' ∧ V' r 7 0 = V r 7 0 ∧ W' a 21 0 = V' r 8 0 ∧ (V' r 8 0 = -1 → V r 8 0 = -1 ∧ rd_at pl N V' W' r x a ∧ V r 5 0 ≤ V' r 5 0 ∧ V x 2 0 ≤ V' x 2 0 ∧ V' x 2 0 - V x 2 0 ≤ pl (V' r 5 0) - pl (V r 5 0) ∧ ∀ z, z < V x 2 0 → V' x 0 z = V x 0 z)
theorem rk_go_t (f : rk_go pl N k V W r x a V' W') (g : rk_go pl N k V' W' r x a V1 W1) : rk_go pl N k V W r x a V1 W1 := by
  obtain ⟨f1, f2, f3, f4, f5⟩ := f
  obtain ⟨g1, g2, g3, g4, g5⟩ := g
  refine ⟨rk_fr_t f1 g1, re_fr_t f2 g2, g3.trans f3, g4, fun q => ?_⟩
  obtain ⟨m1, m2, m3, m4, m5, m6⟩ := g5 q
  obtain ⟨n1, n2, n3, n4, n5, n6⟩ := f5 m1
  exact ⟨n1, m2, by omega, by omega, by omega, fun z hz => by rw [m6 z (by omega), n6 z hz]⟩
/-- both stand ready, inside the clause k -/
def rk_pre (o : Int) (tk pl cd vl : Int → Int) (N k : Int) (V W : dV) (r x a : Int) : Prop := rd_cx o tk pl V r x ∧ re_cx o cd vl pl W a ∧ V r 7 0 = 0 ∧ W a 21 0 = V r 8 0 ∧ (V r 8 0 = -1 → rd_at pl N V W r x a) ∧ V x 3 0 = k
theorem rk_pre_g (hp : rk_pre o tk pl cd vl N k V W r x a) (f : rk_go pl N k V W r x a V' W') : rk_pre o tk pl cd vl N k V' W' r x a := by
  obtain ⟨h1, h2, h3, h4, h5, h6⟩ := hp
  obtain ⟨f1, f2, f3, f4, f5⟩ := f
  exact ⟨rk_cx_f h1 f1, re_cx_f h2 f2, f3.trans h3, f4, fun q => (f5 q).2.1, (rk_3 h1.2.2.2.2.1 f1).trans h6⟩
theorem rk_go_m (hp : rk_pre o tk pl cd vl N k V W r x a) (h0 : 0 ≤ w) (h8 : w < 8) : rk_go pl N k V W r x a (dv_u V x 1 ((k - 1) * 8 + w) y) W := by
  obtain ⟨h1, h2, h3, h4, h5, h6⟩ := hp
  have c5 := h1.2.2.2.2.1
  have vr : ∀ m z, dv_u V x 1 ((k - 1) * 8 + w) y r m z = V r m z := fun m z => u_b (Ne.symm c5)
  have v2 : dv_u V x 1 ((k - 1) * 8 + w) y x 2 0 = V x 2 0 := u_j (by decide)
  refine ⟨rk_fr_m h0 h8, re_fr_r, vr 7 0, by rw [vr]; exact h4, fun q => ?_⟩
  rw [vr] at q
  obtain ⟨b1, b2, b3, b4, b5, b6⟩ := h5 q
  exact ⟨q, ⟨by rw [vr]; exact b1, by rw [vr]; exact b2, by rw [vr]; exact b3, by rw [vr]; exact b4, by rw [v2]; exact b5, by rw [v2, vr]; exact b6⟩, by rw [vr]; exact Int.le_refl _, by rw [v2]; exact Int.le_refl _, by rw [v2, vr]; omega, fun z hz => u_j (by decide)⟩
theorem rk_sum (ts : rd_ts tk pl cd vl N) (hp : rk_pre o tk pl cd vl N k V W r x a) : ∃ (V' : dV) (y : Int) (W' : dV) (y' : Int), f_X5_readSum 8 V r = (V', y) ∧ f_X12_readSum 8 W a 0 = (W', y') ∧ rk_go pl N k V W r x a V' W' ∧ (∀ z, V' x 1 z = V x 1 z) ∧ (V' r 8 0 = -1 → V r 5 0 < V' r 5 0 ∧ ∃ A, D_sum o cd vl 8 (V r 5 0) (V' r 5 0) A ∧ K_seg (V' x 0) (V x 2 0) (V' x 2 0) A 19) := by
  obtain ⟨h1, h2, h3, h4, h5, h6⟩ := hp
  have c5 := h1.2.2.2.2.1
  obtain ⟨V', y, W', y', e1, e2, o1, o2, o3, o4, o5⟩ := rd_sum (o := o) ts 8 8 (Nat.le_refl 8) V W r x a h1 h2 h3 h4 h5
  refine ⟨V', y, W', y', e1, e2, ⟨rk_fr_d o1, o2, o3, o4, fun q => ?_⟩, fun z => rd_x1 c5 o1, fun q => ?_⟩
  · obtain ⟨g1, g2, g3, g4, g5, g6, -⟩ := o5 q
    exact ⟨g1, g2, by omega, by omega, g5, g6⟩
  · obtain ⟨g1, g2, g3, g4, g5, g6, A, g7, g8⟩ := o5 q
    exact ⟨g3, A, g7, g8⟩
theorem rk_test (ts : rd_ts tk pl cd vl N) (hp : rk_pre o tk pl cd vl N k V W r x a) : ∃ (V' : dV) (y : Int) (W' : dV) (y' : Int), f_X5_readTest 8 V r = (V', y) ∧ f_X12_readTest 8 W a 0 = (W', y') ∧ rk_go pl N k V W r x a V' W' ∧ (∀ z, V' x 1 z = V x 1 z) ∧ (V' r 8 0 = -1 → V r 5 0 < V' r 5 0 ∧ ∃ A, D_test o cd vl 8 (V r 5 0) (V' r 5 0) A ∧ K_seg (V' x 0) (V x 2 0) (V' x 2 0) A 20) := by
  obtain ⟨h1, h2, h3, h4, h5, h6⟩ := hp
  have c5 := h1.2.2.2.2.1
  obtain ⟨V', y, W', y', e1, e2, o1, o2, o3, o4, o5⟩ := rd_test (o := o) ts 8 (Nat.le_refl 8) 8 (Nat.le_refl 8) V W r x a h1 h2 h3 h4 h5
  refine ⟨V', y, W', y', e1, e2, ⟨rk_fr_d o1, o2, o3, o4, fun q => ?_⟩, fun z => rd_x1 c5 o1, fun q => ?_⟩
  · obtain ⟨g1, g2, g3, g4, g5, g6, -⟩ := o5 q
    exact ⟨g1, g2, by omega, by omega, g5, g6⟩
  · obtain ⟨g1, g2, g3, g4, g5, g6, A, g7, g8⟩ := o5 q
    exact ⟨g3, A, g7, g8⟩
/-- one token on -/
theorem rk_on (ts : rd_ts tk pl cd vl N) (hp : rk_pre o tk pl cd vl N k V W r x a) (h8 : V r 8 0 = -1) (ht : tk (V r 5 0) ≠ -1) : rk_go pl N k V W r x a (dv_u V r 5 0 (V r 5 0 + 1)) (dv_u W a 19 0 (W a 19 0 + 1)) := by
  obtain ⟨h1, h2, h3, h4, h5, h6⟩ := hp
  have c5 := h1.2.2.2.2.1
  have at0 := h5 h8
  have hi : rd_in o tk pl cd vl N V W r x a := ⟨ts, h1, h2, h8, h4.trans h8, at0⟩
  obtain ⟨i1, p1, S1, q1⟩ := rd_iN hi ht
  have w1 := @rd_w1 (tk (V r 5 0))
  obtain ⟨b1, b2, b3, b4, b5, b6⟩ := at0
  refine ⟨rk_fr_d (rd_fr_u (by decide)), re_fr_u (by decide), u_j (by decide), by rw [u_j (by decide), u_j (by decide)]; exact h4, fun _ => ⟨h8, ⟨by rw [u_e, u_e, b1], by rw [u_e]; omega, by rw [u_j (by decide), u_j (by decide)]; exact b3, by rw [u_j (by decide)]; exact b4, by rw [u_b c5]; exact b5, by rw [u_b c5, u_e]; omega⟩, by rw [u_e]; omega, by rw [u_b c5]; exact Int.le_refl _, by rw [u_b c5, u_e]; omega, fun z _ => u_b c5⟩⟩
/-- a word that must stand there -/
theorem rk_tok (ts : rd_ts tk pl cd vl N) (hp : rk_pre o tk pl cd vl N k V W r x a) (hw : rd_wp t c) : ∃ (V' : dV) (b : Int) (Vt Wt : dV), f_X5_take V r t = (V', b) ∧ (if b ≠ 0 then V' else (f_X5_fail V' r).1) = Vt ∧ f_X12_must W a c = (Wt, 0) ∧ rk_go pl N k V W r x a Vt Wt ∧ (∀ m z, Vt x m z = V x m z) ∧ (Vt r 8 0 = -1 → cd (V r 5 0) = c ∧ Vt r 5 0 = V r 5 0 + 1) := by
  obtain ⟨h1, h2, h3, h4, h5, h6⟩ := id hp
  have c5 := h1.2.2.2.2.1
  by_cases h8 : V r 8 0 = -1
  · have at0 := h5 h8
    have w8 := h4.trans h8
    obtain ⟨T1, T2⟩ := rd_tT (⟨ts, h1, h2, h8, w8, at0⟩ : rd_in o tk pl cd vl N V W r x a)
    have e := rd_wd T1 hw
    by_cases ht : tk (V r 5 0) = t
    · have hc := e.mp ht
      have n1 : tk (V r 5 0) ≠ -1 := by rw [ht]; unfold rd_wp at hw; omega
      exact ⟨_, 1, _, _, c_take1 h1 h8 ht, if_pos (by decide), m_must1 h2 w8 (by rw [at0.1]; exact hc), rk_on ts hp h8 n1, fun m z => u_b c5, fun _ => ⟨hc, u_e⟩⟩
    · have hc : cd (V r 5 0) ≠ c := fun q => ht (e.mpr q)
      refine ⟨_, 0, _, _, c_take0 h1 (fun _ => ht), if_neg (fun q => q rfl), m_must0 h2 w8 (by rw [at0.1]; exact hc), ?_, ?_, ?_⟩
      · rw [c_fail h1 h8, at0.1]
        refine ⟨rk_fr_d (rd_fr_u (by decide)), re_fr_u (by decide), by show dv_u _ _ _ _ _ _ _ _ = _; exact u_j (by decide), by show _ = dv_u _ _ _ _ _ _ _ _; rw [u_e, u_e], fun q => ?_⟩
        have q' : dv_u V r 8 0 (pl (V r 5 0)) r 8 0 = -1 := q
        rw [u_e] at q'
        omega
      · intro m z
        rw [c_fail h1 h8]
        exact u_b c5
      · intro q
        rw [c_fail h1 h8] at q
        have q' : dv_u V r 8 0 (pl (V r 5 0)) r 8 0 = -1 := q
        rw [u_e] at q'
        omega
  · refine ⟨_, 0, _, _, c_take0 h1 (fun q => absurd q h8), if_neg (fun q => q rfl), m_must_f h2 (by rw [h4]; exact h8), ?_, ?_, ?_⟩
    · rw [c_fail_f h8]
      exact ⟨rk_fr_r, re_fr_r, rfl, h4, fun q => absurd q h8⟩
    · intro m z
      rw [c_fail_f h8]
    · intro q
      rw [c_fail_f h8] at q
      exact absurd q h8
end QRK
section QRI
variable {V V' V1 V2 V3 V4 W W' W1 : dV} {r x a i t c v o p N lev h u s k w y ns j : Int} {tk pl cd vl : Int → Int} {D d e : Nat}
theorem mk_e {k w : Int} : dv_u V x 1 ((k - 1) * 8 + w) y x 1 ((k - 1) * 8 + w) = y := u_e
theorem mk_n {k w w' : Int} (h : w' ≠ w) : dv_u V x 1 ((k - 1) * 8 + w) y x 1 ((k - 1) * 8 + w') = V x 1 ((k - 1) * 8 + w') := u_i (by omega)
theorem c_sums (cx : rd_cx o tk pl V r x) (h3 : V x 3 0 = k) (k1 : 1 ≤ k) (k12 : k ≤ 12) : f_X5_readSums V r ns = dv_lp f_X5_readSums_17b (dv_u V x 1 ((k - 1) * 8 + 2) (V x 2 0), r, ns, 0) := by
  unfold f_X5_readSums
  rw [bq, bq, bq, cx.2.2.1, dv_bn2 (c_setm h3 k1 k12 (by decide) (by decide))]
/-- what the marks of the clause k say: w -/
abbrev mkv (V : dV) (x k w : Int) : Int := V x 1 ((k - 1) * 8 + w)
/-- no sums -/
theorem rs_0 (hp : rk_pre o tk pl cd vl N k V W r x a) (k1 : 1 ≤ k) (k12 : k ≤ 12) : ∃ V', f_X5_readSums V r 0 = (V', 0) ∧ rk_go pl N k V W r x a V' W ∧ (∀ m z, m ≠ 1 → V' x m z = V x m z) ∧ (∀ m z, V' r m z = V r m z) ∧ (∀ w, w ≠ 2 → w ≠ 3 → w ≠ 4 → w ≠ 5 → mkv V' x k w = mkv V x k w) ∧ mkv V' x k 2 = V x 2 0 ∧ mkv V' x k 3 = V x 2 0 ∧ mkv V' x k 4 = V x 2 0 ∧ mkv V' x k 5 = V x 2 0 := by
  have c5 := hp.1.2.2.2.2.1
  have g1 := rk_go_m (w := 2) (y := V x 2 0) hp (by decide) (by decide)
  have p1 := rk_pre_g hp g1
  have g2 := rk_go_m (w := 3 + 0) (y := dv_u V x 1 ((k - 1) * 8 + 2) (V x 2 0) x 2 0) p1 (by decide) (by decide)
  have p2 := rk_pre_g p1 g2
  have e0 := c_sums (ns := 0) hp.1 hp.2.2.2.2.2 k1 k12
  have e1 := c_17n (ns := 0) (j := 0) p1.1 p1.2.2.2.2.2 k1 k12 (by decide) (by decide) (by decide)
  generalize hU1 : dv_u V x 1 ((k - 1) * 8 + 2) (V x 2 0) = U1 at g1 p1 g2 p2 e0 e1
  have a1 : U1 x 2 0 = V x 2 0 := by rw [← hU1]; exact u_j (by decide)
  rw [a1] at e1 g2 p2
  have e2 := c_17n (ns := 0) (j := 0 + 1) p2.1 p2.2.2.2.2.2 k1 k12 (by decide) (by decide) (by decide)
  have g3 := rk_go_m (w := 3 + (0 + 1)) (y := dv_u U1 x 1 ((k - 1) * 8 + (3 + 0)) (V x 2 0) x 2 0) p2 (by decide) (by decide)
  have p3 := rk_pre_g p2 g3
  generalize hU2 : dv_u U1 x 1 ((k - 1) * 8 + (3 + 0)) (V x 2 0) = U2 at g2 p2 e1 e2 g3 p3
  have a2 : U2 x 2 0 = V x 2 0 := by rw [← hU2, u_j (by decide), a1]
  rw [a2] at e2 g3 p3
  have e3 := c_17n (ns := 0) (j := 0 + 1 + 1) p3.1 p3.2.2.2.2.2 k1 k12 (by decide) (by decide) (by decide)
  have g4 := rk_go_m (w := 3 + (0 + 1 + 1)) (y := dv_u U2 x 1 ((k - 1) * 8 + (3 + (0 + 1))) (V x 2 0) x 2 0) p3 (by decide) (by decide)
  generalize hU3 : dv_u U2 x 1 ((k - 1) * 8 + (3 + (0 + 1))) (V x 2 0) = U3 at g3 p3 e2 e3 g4
  have a3 : U3 x 2 0 = V x 2 0 := by rw [← hU3, u_j (by decide), a2]
  rw [a3] at e3 g4
  refine ⟨_, (((e0.trans e1).trans e2).trans e3).trans (c_17e (by decide)), rk_go_t (rk_go_t (rk_go_t g1 g2) g3) g4, fun m z hm => ?_, fun m z => ?_, fun w n2 n3 n4 n5 => ?_, ?_, ?_, ?_, ?_⟩
  · rw [u_j hm, ← hU3, u_j hm, ← hU2, u_j hm, ← hU1, u_j hm]
  · rw [u_b (Ne.symm c5), ← hU3, u_b (Ne.symm c5), ← hU2, u_b (Ne.symm c5), ← hU1, u_b (Ne.symm c5)]
  · show dv_u _ _ _ _ _ _ _ _ = _
    rw [mk_n (by omega), ← hU3, mk_n (by omega), ← hU2, mk_n (by omega), ← hU1, mk_n n2]
  · show dv_u _ _ _ _ _ _ _ _ = _
    rw [mk_n (by omega), ← hU3, mk_n (by omega), ← hU2, mk_n (by omega), ← hU1, mk_e]
  · show dv_u _ _ _ _ _ _ _ _ = _
    rw [mk_n (by omega), ← hU3, mk_n (by omega), ← hU2, show (3 : Int) + 0 = 3 by decide, mk_e]
  · show dv_u _ _ _ _ _ _ _ _ = _
    rw [mk_n (by omega), ← hU3, show (3 : Int) + (0 + 1) = 4 by decide, mk_e]
  · show dv_u _ _ _ _ _ _ _ _ = _
    rw [show (3 : Int) + (0 + 1 + 1) = 5 by decide, mk_e]
end QRI
section QRJ
variable {V V' V1 V2 V3 V4 W W' W1 : dV} {r x a i t c v o p N lev h u s k w y ns j : Int} {tk pl cd vl : Int → Int} {D d e : Nat}
/-- a mark was set -/
def rk_mk (pl : Int → Int) (N k : Int) (V W : dV) (r x a : Int) (V' : dV) (w y : Int) : Prop := rk_go pl N k V W r x a V' W ∧ (∀ m z, m ≠ 1 → V' x m z = V x m z) ∧ (∀ m z, V' r m z = V r m z) ∧ mkv V' x k w = y ∧ ∀ w', w' ≠ w → mkv V' x k w' = mkv V x k w'
theorem rk_mk_i (hp : rk_pre o tk pl cd vl N k V W r x a) (h0 : 0 ≤ w) (h8 : w < 8) : rk_mk pl N k V W r x a (dv_u V x 1 ((k - 1) * 8 + w) y) w y :=
  ⟨rk_go_m hp h0 h8, fun m z hm => u_j hm, fun m z => u_b (Ne.symm hp.1.2.2.2.2.1), mk_e, fun w' hw => mk_n hw⟩
theorem s_17n (hp : rk_pre o tk pl cd vl N k V W r x a) (k1 : 1 ≤ k) (k12 : k ≤ 12) (j0 : 0 ≤ j) (j2 : j ≤ 2) (hn : ns ≤ j) : ∃ V', dv_lp f_X5_readSums_17b (V, r, ns, j) = dv_lp f_X5_readSums_17b (V', r, ns, j + 1) ∧ rk_mk pl N k V W r x a V' (3 + j) (V x 2 0) :=
  ⟨_, c_17n hp.1 hp.2.2.2.2.2 k1 k12 j0 j2 hn, rk_mk_i hp (by omega) (by omega)⟩
theorem s_17s (ts : rd_ts tk pl cd vl N) (hp : rk_pre o tk pl cd vl N k V W r x a) (k1 : 1 ≤ k) (k12 : k ≤ 12) (hn : 0 < ns) : ∃ (V1 : dV) (W1 : dV) (y' : Int) (V' : dV), dv_lp f_X5_readSums_17b (V, r, ns, 0) = dv_lp f_X5_readSums_17b (V', r, ns, 1) ∧ f_X12_readSum 8 W a 0 = (W1, y') ∧ rk_go pl N k V W r x a V1 W1 ∧ (∀ z, V1 x 1 z = V x 1 z) ∧ (V1 r 8 0 = -1 → V r 5 0 < V1 r 5 0 ∧ ∃ A, D_sum o cd vl 8 (V r 5 0) (V1 r 5 0) A ∧ K_seg (V1 x 0) (V x 2 0) (V1 x 2 0) A 19) ∧ rk_mk pl N k V1 W1 r x a V' 3 (V1 x 2 0) := by
  obtain ⟨V1, y, W1, y', e1, e2, g, m, hA⟩ := rk_sum ts hp
  have p1 := rk_pre_g hp g
  exact ⟨V1, W1, y', _, c_17s p1.1 p1.2.2.2.2.2 k1 k12 hn e1, e2, g, m, hA, rk_mk_i p1 (by decide) (by decide)⟩
theorem s_17m (ts : rd_ts tk pl cd vl N) (hp : rk_pre o tk pl cd vl N k V W r x a) (k1 : 1 ≤ k) (k12 : k ≤ 12) (hj : j = 1 ∨ j = 2) (hn : j < ns) : ∃ (V1 : dV) (W1 : dV) (V' : dV), dv_lp f_X5_readSums_17b (V, r, ns, j) = dv_lp f_X5_readSums_17b (V', r, ns, j + 1) ∧ f_X12_readMore W a (21 + j) = (W1, 0) ∧ rk_go pl N k V W r x a V1 W1 ∧ (∀ z, V1 x 1 z = V x 1 z) ∧ (V1 r 8 0 = -1 → cd (V r 5 0) = 21 + j ∧ V r 5 0 < V1 r 5 0 ∧ ∃ A, D_sum o cd vl 8 (V r 5 0 + 1) (V1 r 5 0) A ∧ K_seg (V1 x 0) (V x 2 0) (V1 x 2 0) A 19) ∧ rk_mk pl N k V1 W1 r x a V' (3 + j) (V1 x 2 0) := by
  have hw : rd_wp (if j = 1 then 310 else 311) (21 + j) := by
    rcases hj with rfl | rfl
    · rw [if_pos rfl]; unfold rd_wp; omega
    · rw [if_neg (by decide)]; unfold rd_wp; omega
  obtain ⟨V0, b, Vt, Wt, e0, e1, e2, g0, m0, h0⟩ := rk_tok ts hp hw
  have pt := rk_pre_g hp g0
  obtain ⟨V1, y, W1, y', e3, e4, g, m, hA⟩ := rk_sum ts pt
  have p1 := rk_pre_g pt g
  refine ⟨V1, W1, _, c_17m p1.1 p1.2.2.2.2.2 k1 k12 (by omega) (by omega) hn e0 (by rw [e1]; exact e3), ?_, rk_go_t g0 g, fun z => by rw [m z, m0], fun q => ?_, rk_mk_i p1 (by omega) (by omega)⟩
  · unfold f_X12_readMore
    rw [dv_bn2 e2, dv_bn2 e4]
  · obtain ⟨q8, -⟩ := g.2.2.2.2 q
    obtain ⟨c0, c1⟩ := h0 q8
    obtain ⟨q5, A, hD, hK⟩ := hA q
    rw [c1] at q5 hD
    rw [m0] at hK
    exact ⟨c0, by omega, A, hD, hK⟩
/-- one sum -/
theorem rs_1 (ts : rd_ts tk pl cd vl N) (hp : rk_pre o tk pl cd vl N k V W r x a) (k1 : 1 ≤ k) (k12 : k ≤ 12) : ∃ (V' : dV) (W' : dV) (y' : Int), f_X5_readSums V r 1 = (V', 0) ∧ f_X12_readSum 8 W a 0 = (W', y') ∧ rk_go pl N k V W r x a V' W' ∧ (∀ w, w ≠ 2 → w ≠ 3 → w ≠ 4 → w ≠ 5 → mkv V' x k w = mkv V x k w) ∧ mkv V' x k 2 = V x 2 0 ∧ mkv V' x k 3 = V' x 2 0 ∧ mkv V' x k 4 = V' x 2 0 ∧ mkv V' x k 5 = V' x 2 0 ∧ (V' r 8 0 = -1 → V r 5 0 < V' r 5 0 ∧ ∃ A, D_sum o cd vl 8 (V r 5 0) (V' r 5 0) A ∧ K_seg (V' x 0) (V x 2 0) (V' x 2 0) A 19) := by
  have M1 := rk_mk_i (w := 2) (y := V x 2 0) hp (by decide) (by decide)
  have e0 := c_sums (ns := 1) hp.1 hp.2.2.2.2.2 k1 k12
  generalize dv_u V x 1 ((k - 1) * 8 + 2) (V x 2 0) = U1 at M1 e0
  obtain ⟨g1, x1, r1, w1, n1⟩ := M1
  have p1 := rk_pre_g hp g1
  obtain ⟨V1, W1, y', U2, e1, e2, g2, m2, hA, g3, x3, r3, w3, n3⟩ := s_17s (ns := 1) ts p1 k1 k12 (by decide)
  have p2 := rk_pre_g p1 g2
  have p3 := rk_pre_g p2 g3
  obtain ⟨U3, e4, g4, x4, r4, w4, n4⟩ := s_17n (ns := 1) (j := 1) p3 k1 k12 (by decide) (by decide) (by decide)
  have p4 := rk_pre_g p3 g4
  obtain ⟨U4, e5, g5, x5, r5, w5, n5⟩ := s_17n (ns := 1) (j := 1 + 1) p4 k1 k12 (by decide) (by decide) (by decide)
  have z2 : U4 x 2 0 = V1 x 2 0 := by rw [x5 2 0 (by decide), x4 2 0 (by decide), x3 2 0 (by decide)]
  have z0 : ∀ z, U4 x 0 z = V1 x 0 z := fun z => by rw [x5 0 z (by decide), x4 0 z (by decide), x3 0 z (by decide)]
  refine ⟨U4, W1, y', (((e0.trans e1).trans e4).trans e5).trans (c_17e (by decide)), e2, rk_go_t (rk_go_t (rk_go_t (rk_go_t g1 g2) g3) g4) g5, fun w h2 h3 h4 h5 => ?_, ?_, ?_, ?_, ?_, fun q => ?_⟩
  · rw [n5 w (by omega), n4 w (by omega), n3 w (by omega)]
    exact (m2 _).trans (n1 w (by omega))
  · rw [n5 2 (by decide), n4 2 (by decide), n3 2 (by decide)]
    exact (m2 _).trans w1
  · rw [n5 3 (by decide), n4 3 (by decide), w3, z2]
  · rw [n5 4 (by decide), show (4 : Int) = 3 + 1 by decide, w4, z2, x3 2 0 (by decide)]
  · rw [show (5 : Int) = 3 + (1 + 1) by decide, w5, z2, x4 2 0 (by decide), x3 2 0 (by decide)]
  · have q1 : V1 r 8 0 = -1 := by rw [← r3, ← r4, ← r5]; exact q
    obtain ⟨h5, A, hD, hK⟩ := hA q1
    rw [r1] at h5 hD
    rw [x1 2 0 (by decide)] at hK
    have z5 : U4 r 5 0 = V1 r 5 0 := by rw [r5, r4, r3]
    rw [z5, z2]
    exact ⟨h5, A, hD, K_seg_c hK (fun z _ _ => z0 z)⟩
end QRJ
section QRH
variable {V V' V1 V2 V3 V4 W W' W1 : dV} {r x a i t c v o p N lev h u s k w y ns j : Int} {tk pl cd vl : Int → Int} {D d e : Nat}
/-- three sums -/
theorem rs_3 (ts : rd_ts tk pl cd vl N) (hp : rk_pre o tk pl cd vl N k V W r x a) (k1 : 1 ≤ k) (k12 : k ≤ 12) : ∃ (V' : dV) (W1 : dV) (y1 : Int) (W2 W3 : dV), f_X5_readSums V r 3 = (V', 0) ∧ f_X12_readSum 8 W a 0 = (W1, y1) ∧ f_X12_readMore W1 a 22 = (W2, 0) ∧ f_X12_readMore W2 a 23 = (W3, 0) ∧ rk_go pl N k V W r x a V' W3 ∧ (∀ w, w ≠ 2 → w ≠ 3 → w ≠ 4 → w ≠ 5 → mkv V' x k w = mkv V x k w) ∧ mkv V' x k 2 = V x 2 0 ∧ (V' r 8 0 = -1 → ∃ (j1 j2 : Int) (A0 A1 A2 : dn), mkv V' x k 5 = V' x 2 0 ∧ (V r 5 0 < j1 ∧ j1 < j2 ∧ j2 < V' r 5 0) ∧ D_sum o cd vl 8 (V r 5 0) j1 A0 ∧ cd j1 = 22 ∧ D_sum o cd vl 8 (j1 + 1) j2 A1 ∧ cd j2 = 23 ∧ D_sum o cd vl 8 (j2 + 1) (V' r 5 0) A2 ∧ K_seg (V' x 0) (V x 2 0) (mkv V' x k 3) A0 19 ∧ K_seg (V' x 0) (mkv V' x k 3) (mkv V' x k 4) A1 19 ∧ K_seg (V' x 0) (mkv V' x k 4) (mkv V' x k 5) A2 19) := by
  have M1 := rk_mk_i (w := 2) (y := V x 2 0) hp (by decide) (by decide)
  have e0 := c_sums (ns := 3) hp.1 hp.2.2.2.2.2 k1 k12
  generalize dv_u V x 1 ((k - 1) * 8 + 2) (V x 2 0) = U1 at M1 e0
  obtain ⟨g1, x1, r1, w1, n1⟩ := M1
  have p1 := rk_pre_g hp g1
  obtain ⟨V1, W1, y1, U2, e1, f1, g2, m2, hA, g3, x3, r3, w3, n3⟩ := s_17s (ns := 3) ts p1 k1 k12 (by decide)
  have p3 := rk_pre_g (rk_pre_g p1 g2) g3
  obtain ⟨V2, W2, U3, e4, f2, g4, m4, hB, g5, x5, r5, w5, n5⟩ := s_17m (ns := 3) (j := 1) ts p3 k1 k12 (Or.inl rfl) (by decide)
  have p5 := rk_pre_g (rk_pre_g p3 g4) g5
  obtain ⟨V3, W3, U4, e6, f3, g6, m6, hC, g7, x7, r7, w7, n7⟩ := s_17m (ns := 3) (j := 1 + 1) ts p5 k1 k12 (Or.inr rfl) (by decide)
  have w5 : mkv U3 x k 4 = V2 x 2 0 := w5
  have w7 : mkv U4 x k 5 = V3 x 2 0 := w7
  have n5 : ∀ w', w' ≠ 4 → mkv U3 x k w' = mkv V2 x k w' := n5
  have n7 : ∀ w', w' ≠ 5 → mkv U4 x k w' = mkv V3 x k w' := n7
  have m4 : ∀ w, mkv V2 x k w = mkv U2 x k w := fun w => m4 _
  have m6 : ∀ w, mkv V3 x k w = mkv U3 x k w := fun w => m6 _
  have m2 : ∀ w, mkv V1 x k w = mkv U1 x k w := fun w => m2 _
  refine ⟨U4, W1, y1, W2, W3, (((e0.trans e1).trans e4).trans e6).trans (c_17e (by decide)), f1, f2, f3, rk_go_t (rk_go_t (rk_go_t (rk_go_t (rk_go_t (rk_go_t g1 g2) g3) g4) g5) g6) g7, fun w h2 h3 h4 h5 => ?_, ?_, fun q => ?_⟩
  · rw [n7 w h5, m6, n5 w h4, m4, n3 w h3, m2, n1 w h2]
  · rw [n7 2 (by decide), m6, n5 2 (by decide), m4, n3 2 (by decide), m2, w1]
  · have k3 : mkv U4 x k 3 = V1 x 2 0 := by rw [n7 3 (by decide), m6, n5 3 (by decide), m4, w3]
    have k4 : mkv U4 x k 4 = V2 x 2 0 := by rw [n7 4 (by decide), m6, w5]
    have q7 : V3 r 8 0 = -1 := by rw [← r7]; exact q
    obtain ⟨q6, -, -, -, -, z6⟩ := g6.2.2.2.2 q7
    have q5 : V2 r 8 0 = -1 := by rw [← r5]; exact q6
    obtain ⟨q4, -, -, -, -, z4⟩ := g4.2.2.2.2 q5
    have q3 : V1 r 8 0 = -1 := by rw [← r3]; exact q4
    obtain ⟨a5, A0, D0, K0⟩ := hA q3
    obtain ⟨b0, b5, A1, D1, K1⟩ := hB q5
    obtain ⟨c0, c5, A2, D2, K2⟩ := hC q7
    rw [r1] at a5 D0
    rw [x1 2 0 (by decide)] at K0
    rw [r3] at b0 b5 D1
    rw [x3 2 0 (by decide)] at K1 z4
    rw [r5] at c0 c5 D2
    rw [x5 2 0 (by decide)] at K2 z6
    have y4 : ∀ z, z < V1 x 2 0 → V2 x 0 z = V1 x 0 z := fun z hz => by rw [z4 z hz, x3 0 z (by decide)]
    have y6 : ∀ z, z < V2 x 2 0 → U4 x 0 z = V2 x 0 z := fun z hz => by rw [x7 0 z (by decide), z6 z hz, x5 0 z (by decide)]
    have l1 := K1.1
    rw [k3, k4, w7, x7 2 0 (by decide), r7]
    exact ⟨V1 r 5 0, V2 r 5 0, A0, A1, A2, rfl, ⟨a5, b5, c5⟩, D0, b0, D1, c0, D2, K_seg_c K0 (fun z _ z1 => by rw [y6 z (by omega), y4 z z1]), K_seg_c K1 (fun z _ z1 => y6 z z1), K_seg_c K2 (fun z _ _ => x7 0 z (by decide))⟩
end QRH
section QRT
variable {V V' V1 V2 V3 V4 W W' W1 : dV} {r x a i t c v o p N lev h u s k w y ns j : Int} {tk pl cd vl : Int → Int} {D d e : Nat}
theorem rk_go_n (hp : rk_pre o tk pl cd vl N k V W r x a) : rk_go pl N k V W r x a V W := ⟨rk_fr_r, re_fr_r, rfl, hp.2.2.2.1, fun q => ⟨q, hp.2.2.2.2.1 q, Int.le_refl _, Int.le_refl _, by omega, fun _ _ => rfl⟩⟩
/-- what a clause's test is: marks 6 and 7 -/
def cl_if (o : Int) (cd vl : Int → Int) (m j : Int) (X : Int → Int) (q0 q1 : Int) : Prop := (cd m ≠ 4 ∧ j = m ∧ q0 = q1) ∨ (cd m = 4 ∧ m + 1 < j ∧ ∃ T, D_test o cd vl 8 (m + 1) j T ∧ K_seg X q0 q1 T 20)
def cl_ifs (o : Int) (cd vl : Int → Int) (m j : Int) (X : Int → Int) (q0 q1 s : Int) : Prop := cl_if o cd vl m j X q0 q1 ∧ q1 ≤ s
/-- "if" and its TEST, or neither -/
theorem rc_if (ts : rd_ts tk pl cd vl N) (hp : rk_pre o tk pl cd vl N k V W r x a) (k1 : 1 ≤ k) (k12 : k ≤ 12) : ∃ (V' W' : dV), f_X5_readClause_155 V r = (V', 0) ∧ f_X12_readClause_29 W a = (W', 0) ∧ f_X12_readOrder_77 W a = (W', 0) ∧ rk_go pl N k V W r x a V' W' ∧ (∀ w, w ≠ 6 → w ≠ 7 → mkv V' x k w = mkv V x k w) ∧ (V' r 8 0 = -1 → cl_ifs o cd vl (V r 5 0) (V' r 5 0) (V' x 0) (mkv V' x k 6) (mkv V' x k 7) (V' x 2 0)) := by
  have M1 := rk_mk_i (w := 6) (y := V x 2 0) hp (by decide) (by decide)
  have e6 : f_X10_setMark V x 6 (V x 2 0) = (dv_u V x 1 ((k - 1) * 8 + 6) (V x 2 0), 0) := c_setm hp.2.2.2.2.2 k1 k12 (by decide) (by decide)
  have c3 := hp.1.2.2.1
  generalize dv_u V x 1 ((k - 1) * 8 + 6) (V x 2 0) = U1 at M1 e6
  obtain ⟨g1, x1, r1, w1, n1⟩ := M1
  have p1 := rk_pre_g hp g1
  -- the end of the clause
  have E185 : ∀ {V2 W2 : dV}, rk_pre o tk pl cd vl N k V2 W2 r x a → ∃ V3, f_X5_readClause_185 V2 r = (V3, 0) ∧ rk_mk pl N k V2 W2 r x a V3 7 (V2 x 2 0) := by
    intro V2 W2 q
    refine ⟨_, ?_, rk_mk_i (w := 7) (y := V2 x 2 0) q (by decide) (by decide)⟩
    unfold f_X5_readClause_185
    rw [bq, bq, bq, q.1.2.2.1, dv_bn2 (c_setm q.2.2.2.2.2 k1 k12 (by decide) (by decide))]
  by_cases hif : V r 8 0 = -1 ∧ tk (V r 5 0) = 308
  · obtain ⟨h8, ht⟩ := hif
    have at0 := hp.2.2.2.2.1 h8
    have w8 := hp.2.2.2.1.trans h8
    obtain ⟨T1, T2⟩ := rd_tT (⟨ts, hp.1, hp.2.1, h8, w8, at0⟩ : rd_in o tk pl cd vl N V W r x a)
    have hc : cd (V r 5 0) = 4 := (rd_wd T1 (b := 308) (e := 4) (by unfold rd_wp; omega)).mp ht
    have t1 := c_take1 (t := 308) p1.1 (by rw [r1]; exact h8) (by rw [r1]; exact ht)
    have m1 := m_take1 (c := 4) p1.2.1 w8 (by rw [at0.1]; exact hc)
    have g2 := rk_on ts p1 (by rw [r1]; exact h8) (by rw [r1]; omega)
    have z5 : dv_u U1 r 5 0 (U1 r 5 0 + 1) r 5 0 = V r 5 0 + 1 := by rw [u_e, r1]
    have zx : ∀ m z, dv_u U1 r 5 0 (U1 r 5 0 + 1) x m z = U1 x m z := fun m z => u_b hp.1.2.2.2.2.1
    generalize dv_u U1 r 5 0 (U1 r 5 0 + 1) = V2 at t1 g2 z5 zx
    generalize dv_u W a 19 0 (W a 19 0 + 1) = W2 at m1 g2
    have p2 := rk_pre_g p1 g2
    obtain ⟨V3, y, W3, y', e3, f3, g3, m3, hA⟩ := rk_test ts p2
    have p3 := rk_pre_g p2 g3
    obtain ⟨V4, e4, g4, x4, r4, w4, n4⟩ := E185 p3
    have m3 : ∀ w, mkv V3 x k w = mkv V2 x k w := fun w => m3 _
    have zk : ∀ w, mkv V2 x k w = mkv U1 x k w := fun w => zx 1 _
    refine ⟨V4, W3, ?_, ?_, ?_, rk_go_t (rk_go_t (rk_go_t g1 g2) g3) g4, fun w h6 h7 => by rw [n4 w h7, m3, zk, n1 w h6], fun q => ?_⟩
    · unfold f_X5_readClause_155
      rw [bq, bq, bq, c3, dv_bn2 e6, dv_bn2 t1, if_neg (by decide), dv_bn2 e3, e4]
    · unfold f_X12_readClause_29
      rw [dv_bn2 m1, if_neg (by decide), dv_bn2 f3]
    · unfold f_X12_readOrder_77
      rw [dv_bn2 m1, if_neg (by decide), dv_bn2 f3]
    · have q3 : V3 r 8 0 = -1 := by rw [← r4]; exact q
      obtain ⟨l, A, hD, hK⟩ := hA q3
      rw [z5] at l hD
      rw [zx, x1 2 0 (by decide)] at hK
      rw [r4, w4, n4 6 (by decide), m3, zk, w1]
      exact ⟨Or.inr ⟨hc, l, A, hD, K_seg_c hK (fun z _ _ => x4 0 z (by decide))⟩, by rw [x4 2 0 (by decide)]; exact Int.le_refl _⟩
  · have t1 := c_take0 (t := 308) p1.1 (fun q z => hif ⟨by rw [← r1]; exact q, by rw [← r1]; exact z⟩)
    have m1 : f_X12_takes0 W a 4 = (W, 0) := by
      refine m_take0 hp.2.1 (fun q => ?_)
      have h8 : V r 8 0 = -1 := hp.2.2.2.1.symm.trans q
      have at0 := hp.2.2.2.2.1 h8
      obtain ⟨T1, T2⟩ := rd_tT (⟨ts, hp.1, hp.2.1, h8, q, at0⟩ : rd_in o tk pl cd vl N V W r x a)
      rw [at0.1]
      exact fun z => hif ⟨h8, (rd_wd T1 (b := 308) (e := 4) (by unfold rd_wp; omega)).mpr z⟩
    obtain ⟨V4, e4, g4, x4, r4, w4, n4⟩ := E185 p1
    refine ⟨V4, W, ?_, ?_, ?_, rk_go_t g1 g4, fun w h6 h7 => by rw [n4 w h7, n1 w h6], fun q => ?_⟩
    · unfold f_X5_readClause_155
      rw [bq, bq, bq, c3, dv_bn2 e6, dv_bn2 t1, if_pos rfl, e4]
    · unfold f_X12_readClause_29
      rw [dv_bn2 m1, if_pos rfl]
    · unfold f_X12_readOrder_77
      rw [dv_bn2 m1, if_pos rfl]
    · have h8 : V r 8 0 = -1 := by rw [← r1, ← r4]; exact q
      have at0 := hp.2.2.2.2.1 h8
      obtain ⟨T1, T2⟩ := rd_tT (⟨ts, hp.1, hp.2.1, h8, hp.2.2.2.1.trans h8, at0⟩ : rd_in o tk pl cd vl N V W r x a)
      refine ⟨Or.inl ⟨fun z => hif ⟨h8, (rd_wd T1 (b := 308) (e := 4) (by unfold rd_wp; omega)).mpr z⟩, by rw [r4, r1], ?_⟩, ?_⟩
      · rw [w4, n4 6 (by decide), w1, x1 2 0 (by decide)]
      · rw [w4, x4 2 0 (by decide)]; exact Int.le_refl _
end QRT
end
section
section QRV
variable {V V' V1 V2 V3 V4 W W' W1 : dV} {r x a i t c v o p N lev h u s k w y ns j : Int} {tk pl cd vl : Int → Int} {D d e : Nat}
/-- how often a clause of orders runs: mark 1 -/
def cl_tm (o : Int) (cd vl : Int → Int) (m m' q0 q1 : Int) : Prop := (¬ (o = 1 ∧ cd m = 27) ∧ m' = m ∧ q1 = q0) ∨ (o = 1 ∧ cd m = 27 ∧ cd (m + 1) = 50 ∧ (1 ≤ vl (m + 1) ∧ vl (m + 1) ≤ 20) ∧ m' = m + 2 ∧ q1 = vl (m + 1))
theorem rc_law (hs : f_X5_readSums V r ns = (V1, 0)) (h4 : V1 r 4 0 = 0) : f_X5_readClause_109 V r ns = f_X5_readClause_155 V1 r := by
  unfold f_X5_readClause_109
  rw [dv_bn2 hs, bq, if_pos h4]
/-- "times" or not, then "if" or not -/
theorem rc_ord (ts : rd_ts tk pl cd vl N) (hs : f_X5_readSums V r ns = (V1, 0)) (o1 : o = 1) (hp : rk_pre o tk pl cd vl N k V1 W r x a) (k1 : 1 ≤ k) (k12 : k ≤ 12) : ∃ (V' W' : dV), f_X5_readClause_109 V r ns = (V', 0) ∧ f_X12_readOrder_61 W a = (W', 0) ∧ rk_go pl N k V1 W r x a V' W' ∧ (∀ w, w ≠ 1 → w ≠ 6 → w ≠ 7 → mkv V' x k w = mkv V1 x k w) ∧ (V' r 8 0 = -1 → ∃ m, cl_tm o cd vl (V1 r 5 0) m (mkv V1 x k 1) (mkv V' x k 1) ∧ cl_ifs o cd vl m (V' r 5 0) (V' x 0) (mkv V' x k 6) (mkv V' x k 7) (V' x 2 0)) := by
  have c4 : V1 r 4 0 ≠ 0 := by rw [hp.1.2.2.2.1, o1]; decide
  have c5 := hp.1.2.2.2.2.1
  by_cases hif : V1 r 8 0 = -1 ∧ tk (V1 r 5 0) = 309
  · obtain ⟨h8, ht⟩ := hif
    have at0 := hp.2.2.2.2.1 h8
    have w8 := hp.2.2.2.1.trans h8
    have hi : rd_in o tk pl cd vl N V1 W r x a := ⟨ts, hp.1, hp.2.1, h8, w8, at0⟩
    obtain ⟨T1, T2⟩ := rd_tT hi
    obtain ⟨i1, pp1, S1, q1⟩ := rd_iN hi (by omega)
    have hc : cd (V1 r 5 0) = 27 := (rd_wd T1 (b := 309) (e := 27) (by unfold rd_wp; omega)).mp ht
    have t1 := c_take1 (t := 309) hp.1 h8 ht
    have m1 := m_take1 (c := 27) hp.2.1 w8 (by rw [at0.1]; exact hc)
    have g2 := rk_on ts hp h8 (by omega)
    have z5 : dv_u V1 r 5 0 (V1 r 5 0 + 1) r 5 0 = V1 r 5 0 + 1 := u_e
    have z8 : dv_u V1 r 5 0 (V1 r 5 0 + 1) r 8 0 = -1 := by rw [u_j (by decide), h8]
    have zx : ∀ m z, dv_u V1 r 5 0 (V1 r 5 0 + 1) x m z = V1 x m z := fun m z => u_b c5
    generalize dv_u V1 r 5 0 (V1 r 5 0 + 1) = V2 at t1 g2 z5 z8 zx
    generalize dv_u W a 19 0 (W a 19 0 + 1) = W2 at m1 g2
    have p2 := rk_pre_g hp g2
    have at2 := p2.2.2.2.2.1 z8
    have w28 := p2.2.2.2.1.trans z8
    have zk : ∀ w, mkv V2 x k w = mkv V1 x k w := fun w => zx 1 _
    have tb := tk_bd S1
    by_cases hv : 401 ≤ tk (V1 r 5 0 + 1) ∧ tk (V1 r 5 0 + 1) ≤ 420
    · obtain ⟨cd5, vl5, -⟩ := tk_num S1 (by omega)
      have vl5 := vl5 (by omega)
      have en := c_num1 (V := V2) (l := 1) (m := 20) (n := tk (V1 r 5 0 + 1) - 400) p2.1 z8 (by rw [z5]; omega) (by omega) (by omega) (by omega)
      have em := m_num1 (W := W2) (l := 1) (m := 20) p2.2.1 w28 (by rw [at2.1, z5]; exact cd5) (by rw [at2.1, z5]; omega) (by rw [at2.1, z5]; omega)
      have g3 := rk_on ts p2 z8 (by rw [z5]; omega)
      have y5 : dv_u V2 r 5 0 (V2 r 5 0 + 1) r 5 0 = V1 r 5 0 + 2 := by rw [u_e, z5]; omega
      have yx : ∀ m z, dv_u V2 r 5 0 (V2 r 5 0 + 1) x m z = V2 x m z := fun m z => u_b c5
      generalize dv_u V2 r 5 0 (V2 r 5 0 + 1) = V3 at en g3 y5 yx
      generalize dv_u W2 a 19 0 (W2 a 19 0 + 1) = W3 at em g3
      have p3 := rk_pre_g p2 g3
      have yk : ∀ w, mkv V3 x k w = mkv V2 x k w := fun w => yx 1 _
      have e1 : f_X10_setMark V3 x 1 (tk (V1 r 5 0 + 1) - 400) = (dv_u V3 x 1 ((k - 1) * 8 + 1) (tk (V1 r 5 0 + 1) - 400), 0) := c_setm p3.2.2.2.2.2 k1 k12 (by decide) (by decide)
      have M4 := rk_mk_i (w := 1) (y := tk (V1 r 5 0 + 1) - 400) p3 (by decide) (by decide)
      generalize dv_u V3 x 1 ((k - 1) * 8 + 1) (tk (V1 r 5 0 + 1) - 400) = V4 at e1 M4
      obtain ⟨g4, x4, r4, w4, n4⟩ := M4
      have p4 := rk_pre_g p3 g4
      obtain ⟨V5, W5, e5, -, f5, g5, n5, h5⟩ := rc_if ts p4 k1 k12
      refine ⟨V5, W5, ?_, ?_, rk_go_t (rk_go_t (rk_go_t g2 g3) g4) g5, fun w h1 h6 h7 => by rw [n5 w h6 h7, n4 w h1, yk, zk], fun q => ?_⟩
      · unfold f_X5_readClause_109
        rw [dv_bn2 hs, bq, if_neg c4, dv_bn2 t1, if_neg (by decide), dv_bn2 en, bq, p3.1.2.2.1, dv_bn2 e1, if_pos (by omega), e5]
      · unfold f_X12_readOrder_61
        rw [dv_bn2 m1, if_neg (by decide), dv_bn2 em, f5]
      · have l := h5 q
        rw [r4, y5] at l
        refine ⟨V1 r 5 0 + 2, Or.inr ⟨o1, hc, cd5, by omega, rfl, ?_⟩, l⟩
        rw [n5 1 (by decide) (by decide), w4, vl5]
    · have hp1 : pl (V1 r 5 0 + 1) ≠ -1 := by omega
      have en := c_num0 (V := V2) (l := 1) (m := 20) (n := tk (V1 r 5 0 + 1) - 400) p2.1 (fun _ => ⟨by rw [z5]; omega, by omega⟩) (fun _ => by omega)
      have hbad : cd (V1 r 5 0 + 1) ≠ 50 ∨ vl (V1 r 5 0 + 1) < 1 ∨ 20 < vl (V1 r 5 0 + 1) := by
        by_cases h4 : tk (V1 r 5 0 + 1) < 400
        · exact Or.inl (tk_non S1 h4)
        · have := tk_num S1 (by omega); omega
      have em := m_num0 (W := W2) (l := 1) (m := 20) p2.2.1 w28 (by rw [at2.1, z5]; exact hbad) (by rw [at2.1, z5]; exact hp1)
      rw [at2.1, z5] at em
      have e1 : f_X10_setMark V2 x 1 (-1) = (dv_u V2 x 1 ((k - 1) * 8 + 1) (-1), 0) := c_setm p2.2.2.2.2.2 k1 k12 (by decide) (by decide)
      have M4 := rk_mk_i (w := 1) (y := -1) p2 (by decide) (by decide)
      generalize dv_u V2 x 1 ((k - 1) * 8 + 1) (-1) = V4 at e1 M4
      obtain ⟨g4, x4, r4, w4, n4⟩ := M4
      have p4 := rk_pre_g p2 g4
      have ef := c_fail p4.1 (by rw [r4]; exact z8)
      rw [r4, z5] at ef
      have g6 : rk_go pl N k V4 W2 r x a (dv_u V4 r 8 0 (pl (V1 r 5 0 + 1))) (dv_u W2 a 21 0 (pl (V1 r 5 0 + 1))) := by
        refine ⟨rk_fr_d (rd_fr_u (by decide)), re_fr_u (by decide), u_j (by decide), by rw [u_e, u_e], fun q => ?_⟩
        rw [u_e] at q
        exact absurd q hp1
      have fx : ∀ m z, dv_u V4 r 8 0 (pl (V1 r 5 0 + 1)) x m z = V4 x m z := fun m z => u_b c5
      have f8 : dv_u V4 r 8 0 (pl (V1 r 5 0 + 1)) r 8 0 ≠ -1 := by rw [u_e]; exact hp1
      generalize dv_u V4 r 8 0 (pl (V1 r 5 0 + 1)) = V6 at ef g6 fx f8
      generalize dv_u W2 a 21 0 (pl (V1 r 5 0 + 1)) = W6 at em g6
      have p6 := rk_pre_g p4 g6
      have fk : ∀ w, mkv V6 x k w = mkv V4 x k w := fun w => fx 1 _
      obtain ⟨V5, W5, e5, -, f5, g5, n5, h5⟩ := rc_if ts p6 k1 k12
      refine ⟨V5, W5, ?_, ?_, rk_go_t (rk_go_t (rk_go_t g2 g4) g6) g5, fun w h1 h6 h7 => by rw [n5 w h6 h7, fk, n4 w h1, zk], fun q => ?_⟩
      · unfold f_X5_readClause_109
        rw [dv_bn2 hs, bq, if_neg c4, dv_bn2 t1, if_neg (by decide), dv_bn2 en, bq, p2.1.2.2.1, dv_bn2 e1, if_neg (by decide), dv_bn2 ef, e5]
      · unfold f_X12_readOrder_61
        rw [dv_bn2 m1, if_neg (by decide), dv_bn2 em, f5]
      · exact absurd (g5.2.2.2.2 q).1 f8
  · have t1 := c_take0 (t := 309) hp.1 (fun q z => hif ⟨q, z⟩)
    have n27 : V1 r 8 0 = -1 → cd (V1 r 5 0) ≠ 27 := by
      intro h8 z
      have at0 := hp.2.2.2.2.1 h8
      obtain ⟨T1, T2⟩ := rd_tT (⟨ts, hp.1, hp.2.1, h8, hp.2.2.2.1.trans h8, at0⟩ : rd_in o tk pl cd vl N V1 W r x a)
      exact hif ⟨h8, (rd_wd T1 (b := 309) (e := 27) (by unfold rd_wp; omega)).mpr z⟩
    have m1 : f_X12_takes0 W a 27 = (W, 0) := by
      refine m_take0 hp.2.1 (fun q => ?_)
      have h8 : V1 r 8 0 = -1 := hp.2.2.2.1.symm.trans q
      rw [(hp.2.2.2.2.1 h8).1]
      exact n27 h8
    obtain ⟨V5, W5, e5, -, f5, g5, n5, h5⟩ := rc_if ts hp k1 k12
    refine ⟨V5, W5, ?_, ?_, g5, fun w h1 h6 h7 => n5 w h6 h7, fun q => ?_⟩
    · unfold f_X5_readClause_109
      rw [dv_bn2 hs, bq, if_neg c4, dv_bn2 t1, if_pos rfl, e5]
    · unfold f_X12_readOrder_61
      rw [dv_bn2 m1, if_pos rfl, f5]
    · have h8 := (g5.2.2.2.2 q).1
      exact ⟨V1 r 5 0, Or.inl ⟨fun z => n27 h8 z.2, rfl, n5 1 (by decide) (by decide)⟩, h5 q⟩
end QRV
section QRG
variable {V V' V1 V2 V3 V4 W W' W1 : dV} {r x a i t c v o p N lev h u s k w y ns j : Int} {tk pl cd vl : Int → Int} {D d e : Nat}
/-- what a clause's sums are: marks 2 .. 5 -/
def cl_sm (o : Int) (cd vl : Int → Int) (ns i m : Int) (X : Int → Int) (q2 q3 q4 q5 : Int) : Prop := (ns = 0 ∧ m = i ∧ q3 = q2 ∧ q4 = q2 ∧ q5 = q2) ∨ (ns = 1 ∧ i < m ∧ q4 = q3 ∧ q5 = q3 ∧ ∃ A, D_sum o cd vl 8 i m A ∧ K_seg X q2 q3 A 19) ∨ (ns = 3 ∧ ∃ (j1 j2 : Int) (A0 A1 A2 : dn), (i < j1 ∧ j1 < j2 ∧ j2 < m) ∧ D_sum o cd vl 8 i j1 A0 ∧ cd j1 = 22 ∧ D_sum o cd vl 8 (j1 + 1) j2 A1 ∧ cd j2 = 23 ∧ D_sum o cd vl 8 (j2 + 1) m A2 ∧ K_seg X q2 q3 A0 19 ∧ K_seg X q3 q4 A1 19 ∧ K_seg X q4 q5 A2 19)
/-- a clause behind its first word, which stands before i -/
def cl_bd (o : Int) (cd vl : Int → Int) (ns i j t0 : Int) (X M : Int → Int) (s : Int) : Prop := ∃ m m', cl_sm o cd vl ns i m X (M 2) (M 3) (M 4) (M 5) ∧ cl_tm o cd vl m m' t0 (M 1) ∧ cl_ifs o cd vl m' j X (M 6) (M 7) s ∧ M 5 ≤ s
theorem rc_tail (ts : rd_ts tk pl cd vl N) (hs : f_X5_readSums V r ns = (V1, 0)) (hp : rk_pre o tk pl cd vl N k V1 W r x a) (k1 : 1 ≤ k) (k12 : k ≤ 12) : ∃ (V' W' : dV), f_X5_readClause_109 V r ns = (V', 0) ∧ (o = 0 → f_X12_readClause_29 W a = (W', 0)) ∧ (o = 1 → f_X12_readOrder_61 W a = (W', 0)) ∧ rk_go pl N k V1 W r x a V' W' ∧ (∀ w, w ≠ 1 → w ≠ 6 → w ≠ 7 → mkv V' x k w = mkv V1 x k w) ∧ (V' r 8 0 = -1 → ∃ m, cl_tm o cd vl (V1 r 5 0) m (mkv V1 x k 1) (mkv V' x k 1) ∧ cl_ifs o cd vl m (V' r 5 0) (V' x 0) (mkv V' x k 6) (mkv V' x k 7) (V' x 2 0)) := by
  rcases hp.1.2.2.2.2.2 with o0 | o1
  · obtain ⟨V', W', e1, e2, -, g, n, q⟩ := rc_if ts hp k1 k12
    refine ⟨V', W', by rw [rc_law hs (by rw [hp.1.2.2.2.1, o0]), e1], fun _ => e2, fun z => by omega, g, fun w _ h6 h7 => n w h6 h7, fun z => ⟨V1 r 5 0, Or.inl ⟨fun y => by omega, rfl, n 1 (by decide) (by decide)⟩, q z⟩⟩
  · obtain ⟨V', W', e1, e2, g, n, q⟩ := rc_ord ts hs o1 hp k1 k12
    exact ⟨V', W', e1, fun z => by omega, fun _ => e2, g, n, q⟩
theorem rc_b0 (ts : rd_ts tk pl cd vl N) (hp : rk_pre o tk pl cd vl N k V W r x a) (k1 : 1 ≤ k) (k12 : k ≤ 12) : ∃ (V' W' : dV), f_X5_readClause_109 V r 0 = (V', 0) ∧ (o = 0 → f_X12_readClause_29 W a = (W', 0)) ∧ (o = 1 → f_X12_readOrder_61 W a = (W', 0)) ∧ rk_go pl N k V W r x a V' W' ∧ mkv V' x k 0 = mkv V x k 0 ∧ (V' r 8 0 = -1 → cl_bd o cd vl 0 (V r 5 0) (V' r 5 0) (mkv V x k 1) (V' x 0) (fun w => mkv V' x k w) (V' x 2 0)) := by
  obtain ⟨V1, e1, g1, x1, r1, n1, w2, w3, w4, w5⟩ := rs_0 hp k1 k12
  obtain ⟨V', W', e2, f1, f2, g2, n2, q2⟩ := rc_tail ts e1 (rk_pre_g hp g1) k1 k12
  refine ⟨V', W', e2, f1, f2, rk_go_t g1 g2, by rw [n2 0 (by decide) (by decide) (by decide), n1 0 (by decide) (by decide) (by decide) (by decide)], fun q => ?_⟩
  obtain ⟨m, h1, h2⟩ := q2 q
  rw [r1, n1 1 (by decide) (by decide) (by decide) (by decide)] at h1
  refine ⟨V r 5 0, m, Or.inl ⟨rfl, rfl, ?_, ?_, ?_⟩, h1, h2, ?_⟩
  · show mkv V' x k 3 = mkv V' x k 2
    rw [n2 3 (by decide) (by decide) (by decide), n2 2 (by decide) (by decide) (by decide), w3, w2]
  · show mkv V' x k 4 = mkv V' x k 2
    rw [n2 4 (by decide) (by decide) (by decide), n2 2 (by decide) (by decide) (by decide), w4, w2]
  · show mkv V' x k 5 = mkv V' x k 2
    rw [n2 5 (by decide) (by decide) (by decide), n2 2 (by decide) (by decide) (by decide), w5, w2]
  · show mkv V' x k 5 ≤ V' x 2 0
    rw [n2 5 (by decide) (by decide) (by decide), w5, ← x1 2 0 (by decide)]
    exact (g2.2.2.2.2 q).2.2.2.1
theorem rc_b1 (ts : rd_ts tk pl cd vl N) (hp : rk_pre o tk pl cd vl N k V W r x a) (k1 : 1 ≤ k) (k12 : k ≤ 12) : ∃ (V' W1 : dV) (y1 : Int) (W' : dV), f_X5_readClause_109 V r 1 = (V', 0) ∧ f_X12_readSum 8 W a 0 = (W1, y1) ∧ (o = 0 → f_X12_readClause_29 W1 a = (W', 0)) ∧ (o = 1 → f_X12_readOrder_61 W1 a = (W', 0)) ∧ rk_go pl N k V W r x a V' W' ∧ mkv V' x k 0 = mkv V x k 0 ∧ (V' r 8 0 = -1 → cl_bd o cd vl 1 (V r 5 0) (V' r 5 0) (mkv V x k 1) (V' x 0) (fun w => mkv V' x k w) (V' x 2 0)) := by
  obtain ⟨V1, W1, y1, e1, e0, g1, n1, w2, w3, w4, w5, q1⟩ := rs_1 ts hp k1 k12
  obtain ⟨V', W', e2, f1, f2, g2, n2, q2⟩ := rc_tail ts e1 (rk_pre_g hp g1) k1 k12
  refine ⟨V', W1, y1, W', e2, e0, f1, f2, rk_go_t g1 g2, by rw [n2 0 (by decide) (by decide) (by decide), n1 0 (by decide) (by decide) (by decide) (by decide)], fun q => ?_⟩
  obtain ⟨m, h1, h2⟩ := q2 q
  obtain ⟨s8, -, -, -, -, sz⟩ := g2.2.2.2.2 q
  obtain ⟨l, A, hD, hK⟩ := q1 s8
  rw [n1 1 (by decide) (by decide) (by decide) (by decide)] at h1
  refine ⟨V1 r 5 0, m, Or.inr (Or.inl ⟨rfl, l, ?_, ?_, A, hD, ?_⟩), h1, h2, ?_⟩
  · show mkv V' x k 4 = mkv V' x k 3
    rw [n2 4 (by decide) (by decide) (by decide), n2 3 (by decide) (by decide) (by decide), w4, w3]
  · show mkv V' x k 5 = mkv V' x k 3
    rw [n2 5 (by decide) (by decide) (by decide), n2 3 (by decide) (by decide) (by decide), w5, w3]
  · show K_seg (V' x 0) (mkv V' x k 2) (mkv V' x k 3) A 19
    rw [n2 2 (by decide) (by decide) (by decide), n2 3 (by decide) (by decide) (by decide), w2, w3]
    exact K_seg_c hK (fun z _ z1 => sz z z1)
  · show mkv V' x k 5 ≤ V' x 2 0
    rw [n2 5 (by decide) (by decide) (by decide), w5]
    exact (g2.2.2.2.2 q).2.2.2.1
theorem rc_b3 (ts : rd_ts tk pl cd vl N) (hp : rk_pre o tk pl cd vl N k V W r x a) (k1 : 1 ≤ k) (k12 : k ≤ 12) : ∃ (V' W1 : dV) (y1 : Int) (W2 W3 W' : dV), f_X5_readClause_109 V r 3 = (V', 0) ∧ f_X12_readSum 8 W a 0 = (W1, y1) ∧ f_X12_readMore W1 a 22 = (W2, 0) ∧ f_X12_readMore W2 a 23 = (W3, 0) ∧ (o = 1 → f_X12_readOrder_61 W3 a = (W', 0)) ∧ rk_go pl N k V W r x a V' W' ∧ mkv V' x k 0 = mkv V x k 0 ∧ (V' r 8 0 = -1 → cl_bd o cd vl 3 (V r 5 0) (V' r 5 0) (mkv V x k 1) (V' x 0) (fun w => mkv V' x k w) (V' x 2 0)) := by
  obtain ⟨V1, W1, y1, W2, W3, e1, e0, em, en, g1, n1, w2, q1⟩ := rs_3 ts hp k1 k12
  obtain ⟨V', W', e2, f1, f2, g2, n2, q2⟩ := rc_tail ts e1 (rk_pre_g hp g1) k1 k12
  refine ⟨V', W1, y1, W2, W3, W', e2, e0, em, en, f2, rk_go_t g1 g2, by rw [n2 0 (by decide) (by decide) (by decide), n1 0 (by decide) (by decide) (by decide) (by decide)], fun q => ?_⟩
  obtain ⟨m, h1, h2⟩ := q2 q
  obtain ⟨s8, -, -, -, -, sz⟩ := g2.2.2.2.2 q
  obtain ⟨j1, j2, A0, A1, A2, w5, l, D0, c0, D1, c1, D2, K0, K1, K2⟩ := q1 s8
  rw [n1 1 (by decide) (by decide) (by decide) (by decide)] at h1
  have l1 := K1.1
  have l2 := K2.1
  refine ⟨V1 r 5 0, m, Or.inr (Or.inr ⟨rfl, j1, j2, A0, A1, A2, l, D0, c0, D1, c1, D2, ?_, ?_, ?_⟩), h1, h2, ?_⟩
  · show K_seg (V' x 0) (mkv V' x k 2) (mkv V' x k 3) A0 19
    rw [n2 2 (by decide) (by decide) (by decide), n2 3 (by decide) (by decide) (by decide), w2]
    exact K_seg_c K0 (fun z _ z1 => sz z (by omega))
  · show K_seg (V' x 0) (mkv V' x k 3) (mkv V' x k 4) A1 19
    rw [n2 3 (by decide) (by decide) (by decide), n2 4 (by decide) (by decide) (by decide)]
    exact K_seg_c K1 (fun z _ z1 => sz z (by omega))
  · show K_seg (V' x 0) (mkv V' x k 4) (mkv V' x k 5) A2 19
    rw [n2 4 (by decide) (by decide) (by decide), n2 5 (by decide) (by decide) (by decide)]
    exact K_seg_c K2 (fun z _ z1 => sz z (by omega))
  · show mkv V' x k 5 ≤ V' x 2 0
    rw [n2 5 (by decide) (by decide) (by decide), w5]
    exact (g2.2.2.2.2 q).2.2.2.1
end QRG
section QRF
variable {V V' V1 V2 V3 V4 U W W' W1 : dV} {r x a i t c v o p N lev h u s k w y ns j κ : Int} {tk pl cd vl : Int → Int} {D d e : Nat}
theorem rc_open (h3 : V x 3 0 = k - 1) (k1 : 1 ≤ k) (k12 : k ≤ 12) : ∃ U, f_X10_openClause V x κ = (U, 0) ∧ U x 3 0 = k ∧ (∀ m z, m ≠ 1 → m ≠ 3 → U x m z = V x m z) ∧ (∀ b m z, b ≠ x → U b m z = V b m z) ∧ mkv U x k 0 = κ ∧ mkv U x k 1 = 1 ∧ ∀ z, ¬ ((k - 1) * 8 ≤ z ∧ z < k * 8) → U x 1 z = V x 1 z := by
  have s3 : dv_u V x 3 0 (k - 1 + 1) x 3 0 = k := by rw [u_e]; omega
  have s4 : dv_u (dv_u V x 3 0 (k - 1 + 1)) x 1 ((k - 1) * 8 + 0) κ x 3 0 = k := by rw [u_j (by decide), s3]
  refine ⟨dv_u (dv_u (dv_u V x 3 0 (k - 1 + 1)) x 1 ((k - 1) * 8 + 0) κ) x 1 ((k - 1) * 8 + 1) 1, ?_, ?_, fun m z n1 n3 => ?_, fun b m z hb => ?_, ?_, ?_, fun z hz => ?_⟩
  · unfold f_X10_openClause
    rw [bq, h3, if_pos (by omega), bq, bq, bq, dv_bn2 (c_setm s3 k1 k12 (by decide) (by decide)), dv_bn2 (c_setm s4 k1 k12 (by decide) (by decide))]
  · rw [u_j (by decide), s4]
  · rw [u_j n1, u_j n1, u_j n3]
  · rw [u_b hb, u_b hb, u_b hb]
  · show dv_u _ _ _ _ _ _ _ _ = _
    rw [mk_n (by decide), mk_e]
  · show dv_u _ _ _ _ _ _ _ _ = _
    rw [mk_e]
  · rw [u_i (by omega), u_i (by omega), u_j (by decide)]
/-- no clause -/
theorem c_clN (cx : rd_cx o tk pl V r x) (tb : -1 ≤ tk (V r 5 0) ∧ tk (V r 5 0) ≤ 1401) (hn : o = 0 ∧ ¬ (301 ≤ tk (V r 5 0) ∧ tk (V r 5 0) ≤ 303) ∨ o = 1 ∧ ¬ (304 ≤ tk (V r 5 0) ∧ tk (V r 5 0) ≤ 307)) : f_X5_readClause V r = ((f_X5_fail V r).1, 0) := by
  have c4 := cx.2.2.2.1
  have e47 : f_X5_readClause_47 V r = ((f_X5_fail V r).1, 0) := by
    unfold f_X5_readClause_47
    rw [bq2]
  unfold f_X5_readClause f_X5_readClause_25 f_X5_readClause_44
  rw [bq, bq, cx.1, bq]
  rcases hn with ⟨o0, hn⟩ | ⟨o1, hn⟩
  · rw [if_pos (by omega), bq, dv_sub_ok (by omega) (by omega) (by omega) (by omega) (by omega) (by omega)]
    by_cases e : tk (V r 5 0) - 301 < 0
    · rw [if_pos e, e47]
    · rw [if_neg e, bq, if_pos (by omega), if_neg (by omega), e47]
  · rw [if_neg (by omega), bq, dv_sub_ok (by omega) (by omega) (by omega) (by omega) (by omega) (by omega)]
    by_cases e : tk (V r 5 0) - 304 < 0
    · rw [if_pos e, e47]
    · rw [if_neg e, bq, if_neg (by omega), if_neg (by omega), e47]
/-- a clause of a law -/
theorem c_clL (cx : rd_cx o tk pl V r x) (o0 : o = 0) (h0 : 301 ≤ tk (V r 5 0)) (h1 : tk (V r 5 0) ≤ 303) (hU : f_X10_openClause (dv_u V r 5 0 (V r 5 0 + 1)) x (tk (V r 5 0) - 301) = (U, 0)) (u4 : U r 4 0 = o) : f_X5_readClause V r = f_X5_readClause_109 U r (if tk (V r 5 0) - 301 = 2 then 0 else 1) := by
  have c4 := cx.2.2.2.1
  unfold f_X5_readClause f_X5_readClause_25 f_X5_readClause_44
  rw [bq, bq, cx.1, bq, if_pos (by omega), bq, dv_sub_ok (by omega) (by omega) (by omega) (by omega) (by omega) (by omega), if_neg (by omega), bq, if_pos (by omega), if_pos (by omega), bq, bq, bq, bq, u_j (show (3 : Nat) ≠ 5 by decide), cx.2.2.1, dv_bn2 hU, bq, if_pos (by omega)]
  by_cases e : tk (V r 5 0) - 301 = 2
  · rw [if_neg (fun q => q e), if_pos e]
  · rw [if_pos e, if_neg e]
/-- a clause of orders -/
theorem c_clO (cx : rd_cx o tk pl V r x) (o1 : o = 1) (h0 : 304 ≤ tk (V r 5 0)) (h1 : tk (V r 5 0) ≤ 307) (hU : f_X10_openClause (dv_u V r 5 0 (V r 5 0 + 1)) x (tk (V r 5 0) - 304) = (U, 0)) (u4 : U r 4 0 = o) : f_X5_readClause V r = f_X5_readClause_109 U r (if tk (V r 5 0) - 304 = 0 then 3 else if tk (V r 5 0) - 304 = 1 then 1 else 0) := by
  have c4 := cx.2.2.2.1
  unfold f_X5_readClause f_X5_readClause_25 f_X5_readClause_44
  rw [bq, bq, cx.1, bq, if_neg (by omega), bq, dv_sub_ok (by omega) (by omega) (by omega) (by omega) (by omega) (by omega), if_neg (by omega), bq, if_neg (by omega), if_pos (by omega), bq, bq, bq, bq, u_j (show (3 : Nat) ≠ 5 by decide), cx.2.2.1, dv_bn2 hU, bq, if_neg (by omega)]
  by_cases e : tk (V r 5 0) - 304 = 0
  · rw [if_neg (fun q => q e), if_pos e]
  · rw [if_pos e, if_neg e]
    by_cases e1 : tk (V r 5 0) - 304 = 1
    · rw [if_neg (fun q => q e1), if_pos e1]
    · rw [if_pos e1, if_neg e1]
-- the reference's clause
theorem m_clL (kx : re_cx o cd vl pl W a) (o0 : o = 0) (w8 : W a 21 0 = -1) : f_X12_readOne W a = (if cd (W a 19 0) = 1 ∨ cd (W a 19 0) = 2 then (f_X12_readClause_16 (dv_u W a 19 0 (W a 19 0 + 1)) a).1 else (f_X12_readClause_29 (f_X12_must W a 3).1 a).1, 0) := by
  unfold f_X12_readOne f_X12_readClause
  rw [bq, kx.2.2.2.1, if_pos o0, bq2]
  by_cases e1 : cd (W a 19 0) = 1
  · rw [dv_bn2 (m_take1 kx w8 e1), if_pos (by decide), if_pos (Or.inl e1)]
  · rw [dv_bn2 (m_take0 kx (fun _ => e1)), if_neg (fun q => q rfl)]
    by_cases e2 : cd (W a 19 0) = 2
    · rw [dv_bn2 (m_take1 kx w8 e2), if_neg (by decide), if_pos (Or.inr e2)]
    · rw [dv_bn2 (m_take0 kx (fun _ => e2)), if_pos rfl, bq2, if_neg (by omega)]
end QRF
section QRE
variable {V V' V1 V2 V3 V4 U W W' W1 : dV} {r x a i t c v o p N lev h u s k w y ns j κ : Int} {tk pl cd vl : Int → Int} {D d e : Nat}
/-- the reader, its text, the number of clauses and the marks of clause k have changed -/
def kc_fr (k r x : Int) (V V' : dV) : Prop := ∀ b m z, ¬ (b = r ∧ (m = 5 ∨ m = 6 ∨ m = 7 ∨ m = 8)) → ¬ (b = x ∧ (m = 0 ∨ m = 2 ∨ m = 3)) → ¬ (b = x ∧ m = 1 ∧ (k - 1) * 8 ≤ z ∧ z < k * 8) → V' b m z = V b m z
/-- what was read from i to j as a clause whose marks are M -/
def cl_ok (o : Int) (cd vl : Int → Int) (i j : Int) (X M : Int → Int) (s : Int) : Prop := (o = 0 ∧ (0 ≤ M 0 ∧ M 0 ≤ 2) ∧ cd i = M 0 + 1 ∧ cl_bd o cd vl (if M 0 = 2 then 0 else 1) (i + 1) j 1 X M s) ∨ (o = 1 ∧ (0 ≤ M 0 ∧ M 0 ≤ 3) ∧ (cd i = if M 0 = 0 then 21 else 23 + M 0) ∧ cl_bd o cd vl (if M 0 = 0 then 3 else if M 0 = 1 then 1 else 0) (i + 1) j 1 X M s)
/-- its first word, and the clause is open -/
theorem rc_first (ts : rd_ts tk pl cd vl N) (hi : rd_in o tk pl cd vl N V W r x a) (h7 : V r 7 0 = 0) (h3 : V x 3 0 = k - 1) (k1 : 1 ≤ k) (k12 : k ≤ 12) (ht : tk (V r 5 0) ≠ -1) (κ : Int) : ∃ U, f_X10_openClause (dv_u V r 5 0 (V r 5 0 + 1)) x κ = (U, 0) ∧ rk_pre o tk pl cd vl N k U (dv_u W a 19 0 (W a 19 0 + 1)) r x a ∧ kc_fr k r x V U ∧ U r 5 0 = V r 5 0 + 1 ∧ U x 2 0 = V x 2 0 ∧ (∀ z, U x 0 z = V x 0 z) ∧ U r 4 0 = o ∧ U r 8 0 = -1 ∧ mkv U x k 0 = κ ∧ mkv U x k 1 = 1 := by
  obtain ⟨i1, p1, S1, q1⟩ := rd_iN hi ht
  obtain ⟨-, cx, kx, h8, w8, at0⟩ := id hi
  have c5 := cx.2.2.2.2.1
  have w1 := @rd_w1 (tk (V r 5 0))
  have F1 : rd_fr r x V (dv_u V r 5 0 (V r 5 0 + 1)) := rd_fr_u (by decide)
  have z5 : dv_u V r 5 0 (V r 5 0 + 1) r 5 0 = V r 5 0 + 1 := u_e
  have z6 : dv_u V r 5 0 (V r 5 0 + 1) r 6 0 = V r 6 0 := u_j (by decide)
  have z7 : dv_u V r 5 0 (V r 5 0 + 1) r 7 0 = V r 7 0 := u_j (by decide)
  have z8 : dv_u V r 5 0 (V r 5 0 + 1) r 8 0 = -1 := by rw [u_j (by decide), h8]
  have zx : ∀ m z, dv_u V r 5 0 (V r 5 0 + 1) x m z = V x m z := fun m z => u_b c5
  generalize dv_u V r 5 0 (V r 5 0 + 1) = V1 at F1 z5 z6 z7 z8 zx
  obtain ⟨U, e, u3, ux, ub, m0, m1, mz⟩ := rc_open (V := V1) (κ := κ) (by rw [zx]; exact h3) k1 k12
  have ur : ∀ m z, U r m z = V1 r m z := fun m z => ub r m z (Ne.symm c5)
  have cx1 := rd_cx_f cx F1
  obtain ⟨g1, g2, g3, g4, g5, g6⟩ := id cx1
  obtain ⟨b1, b2, b3, b4, b5, b6⟩ := at0
  have cxU : rd_cx o tk pl U r x := ⟨fun z => by rw [ur]; exact g1 z, fun z => by rw [ur]; exact g2 z, by rw [ur]; exact g3, by rw [ur]; exact g4, g5, g6⟩
  refine ⟨U, e, ⟨cxU, re_cx_f kx (re_fr_u (by decide)), by rw [ur, z7, h7], by rw [u_j (by decide), ur, z8, w8], fun _ => ⟨by rw [u_e, ur, z5, b1], by rw [ur, z5]; omega, by rw [u_j (by decide), ur, z6, b3], by rw [ur, z6]; exact b4, by rw [ux 2 0 (by decide) (by decide), zx]; exact b5, by rw [ux 2 0 (by decide) (by decide), zx, ur, z5]; omega⟩, u3⟩, fun b m z n1 n2 n3 => ?_, by rw [ur, z5], by rw [ux 2 0 (by decide) (by decide), zx], fun z => by rw [ux 0 z (by decide) (by decide), zx], by rw [ur]; exact g4, by rw [ur, z8], m0, m1⟩
  by_cases hb : b = x
  · subst hb
    by_cases h1 : m = 1
    · subst h1
      rw [mz z (fun q => n3 ⟨rfl, rfl, q⟩), zx]
    · rw [ux m z h1 (fun q => n2 ⟨rfl, Or.inr (Or.inr q)⟩), zx]
  · rw [ub b m z hb]
    exact F1 b m z n1 (fun q => hb q.1)
theorem kc_fr_g (f : kc_fr k r x V U) (g : rk_fr k r x U V') : kc_fr k r x V V' := fun b m z n1 n2 n3 => (g b m z n1 (fun q => n2 ⟨q.1, q.2.elim Or.inl (fun z => Or.inr (Or.inl z))⟩) n3).trans (f b m z n1 n2 n3)
/-- both have read a clause -/
def rc_out (o : Int) (pl cd vl : Int → Int) (N k : Int) (V W : dV) (r x a : Int) (V' W' : dV) : Prop := kc_fr k r x V V' ∧ re_fr a W W' ∧ V' r 7 0 = 0 ∧ W' a 21 0 = V' r 8 0 ∧ (V' r 8 0 = -1 → V' x 3 0 = k ∧ rd_at pl N V' W' r x a ∧ V r 5 0 < V' r 5 0 ∧ V x 2 0 ≤ V' x 2 0 ∧ (∀ z, z < V x 2 0 → V' x 0 z = V x 0 z) ∧ cl_ok o cd vl (V r 5 0) (V' r 5 0) (V' x 0) (fun w => mkv V' x k w) (V' x 2 0))
theorem rc_outg (hp : rk_pre o tk pl cd vl N k U W1 r x a) (fU : kc_fr k r x V U) (gW : re_fr a W W1) (u5 : U r 5 0 = V r 5 0 + 1) (u2 : U x 2 0 = V x 2 0) (u0 : ∀ z, U x 0 z = V x 0 z) (g : rk_go pl N k U W1 r x a V' W') (hK : V' r 8 0 = -1 → cl_ok o cd vl (V r 5 0) (V' r 5 0) (V' x 0) (fun w => mkv V' x k w) (V' x 2 0)) : rc_out o pl cd vl N k V W r x a V' W' := by
  obtain ⟨g1, g2, g3, g4, g5⟩ := id g
  refine ⟨kc_fr_g fU g1, re_fr_t gW g2, g3.trans hp.2.2.1, g4, fun q => ?_⟩
  obtain ⟨l1, l2, l3, l4, l5, l6⟩ := g5 q
  exact ⟨(rk_pre_g hp g).2.2.2.2.2, l2, by omega, by omega, fun z hz => by rw [l6 z (by omega), u0], hK q⟩
/-- a clause of a law is read the same way -/
theorem rc_clL (ts : rd_ts tk pl cd vl N) (o0 : o = 0) (hi : rd_in o tk pl cd vl N V W r x a) (h7 : V r 7 0 = 0) (h3 : V x 3 0 = k - 1) (k1 : 1 ≤ k) (k12 : k ≤ 12) : ∃ (V' W' : dV), f_X5_readClause V r = (V', 0) ∧ f_X12_readOne W a = (W', 0) ∧ rc_out o pl cd vl N k V W r x a V' W' := by
  obtain ⟨T1, T2⟩ := rd_tT hi
  obtain ⟨-, cx, kx, h8, w8, at0⟩ := id hi
  have em := m_clL kx o0 w8
  have tb := tk_bd T1
  by_cases hv : 301 ≤ tk (V r 5 0) ∧ tk (V r 5 0) ≤ 303
  · have hc : cd (V r 5 0) = tk (V r 5 0) - 300 := by unfold rd_tk rd_wp at T1; omega
    obtain ⟨U, eU, pU, fU, u5, u2, u0, u4, u8, m0, m1⟩ := rc_first ts hi h7 h3 k1 k12 (by omega) (tk (V r 5 0) - 301)
    have e1 := c_clL cx o0 hv.1 hv.2 eU u4
    by_cases e2 : tk (V r 5 0) - 301 = 2
    · rw [if_pos e2] at e1
      obtain ⟨V', W', e3, f3, -, g, n0, q⟩ := rc_b0 ts pU k1 k12
      rw [if_neg (by rw [at0.1]; omega), m_must1 kx w8 (by rw [at0.1]; omega)] at em
      dsimp only at em
      rw [f3 o0] at em
      refine ⟨V', W', e1.trans e3, em, rc_outg pU fU (re_fr_u (by decide)) u5 u2 u0 g (fun z => Or.inl ⟨o0, ?_, ?_, ?_⟩)⟩
      · show 0 ≤ mkv V' x k 0 ∧ mkv V' x k 0 ≤ 2
        rw [n0, m0]; omega
      · show cd (V r 5 0) = mkv V' x k 0 + 1
        rw [n0, m0]; omega
      · show cl_bd o cd vl (if mkv V' x k 0 = 2 then 0 else 1) _ _ _ _ _ _
        have qz := q z
        rw [u5, m1] at qz
        rw [n0, m0, if_pos e2]
        exact qz
    · rw [if_neg e2] at e1
      obtain ⟨V', W1, y1, W', e3, f2, f3, -, g, n0, q⟩ := rc_b1 ts pU k1 k12
      rw [if_pos (by rw [at0.1]; omega)] at em
      unfold f_X12_readClause_16 at em
      rw [dv_bn2 f2, f3 o0] at em
      refine ⟨V', W', e1.trans e3, em, rc_outg pU fU (re_fr_u (by decide)) u5 u2 u0 g (fun z => Or.inl ⟨o0, ?_, ?_, ?_⟩)⟩
      · show 0 ≤ mkv V' x k 0 ∧ mkv V' x k 0 ≤ 2
        rw [n0, m0]; omega
      · show cd (V r 5 0) = mkv V' x k 0 + 1
        rw [n0, m0]; omega
      · show cl_bd o cd vl (if mkv V' x k 0 = 2 then 0 else 1) _ _ _ _ _ _
        have qz := q z
        rw [u5, m1] at qz
        rw [n0, m0, if_neg e2]
        exact qz
  · have e1 := c_clN cx tb (Or.inl ⟨o0, hv⟩)
    rw [c_fail cx h8] at e1
    have hc : cd (V r 5 0) ≠ 1 ∧ cd (V r 5 0) ≠ 2 ∧ cd (V r 5 0) ≠ 3 := by unfold rd_tk rd_wp at T1; omega
    rw [if_neg (by rw [at0.1]; omega), m_must0 kx w8 (by rw [at0.1]; omega), at0.1] at em
    dsimp only at em
    have e29 : f_X12_readClause_29 (dv_u W a 21 0 (pl (V r 5 0))) a = (dv_u W a 21 0 (pl (V r 5 0)), 0) := by
      unfold f_X12_readClause_29
      rw [dv_bn2 (m_take0 (re_cx_f kx (re_fr_u (by decide))) (fun q => by rw [u_e] at q; omega)), if_pos rfl]
    rw [e29] at em
    refine ⟨_, _, e1, em, fun b m z n1 n2 n3 => ?_, re_fr_u (by decide), by show dv_u _ _ _ _ _ _ _ _ = _; rw [u_j (by decide), h7], by show dv_u _ _ _ _ _ _ _ _ = dv_u _ _ _ _ _ _ _ _; rw [u_e, u_e], fun q => ?_⟩
    · exact rd_fr_u (x := x) (by decide) b m z n1 (fun q => n2 ⟨q.1, q.2.elim Or.inl (fun z => Or.inr (Or.inl z))⟩)
    · have q' : dv_u V r 8 0 (pl (V r 5 0)) r 8 0 = -1 := q
      rw [u_e] at q'
      omega
end QRE
section QRW
variable {V V' V1 V2 V3 V4 U W W' W1 W2 W3 : dV} {r x a i t c v o p N lev h u s k w y y1 ns j κ : Int} {tk pl cd vl : Int → Int} {D d e : Nat}
-- the reference's clause of orders
theorem m_clO (kx : re_cx o cd vl pl W a) (o1 : o = 1) {X : dV × Int} (h : f_X12_readOrder W a = X) : f_X12_readOne W a = (X.1, 0) := by
  unfold f_X12_readOne
  rw [bq, kx.2.2.2.1, if_neg (by omega), bq2, h]
theorem m_or0 (kx : re_cx o cd vl pl W a) (w8 : W a 21 0 = -1) (hc : cd (W a 19 0) = 21) (e1 : f_X12_readSum 8 (dv_u W a 19 0 (W a 19 0 + 1)) a 0 = (W1, y1)) (e2 : f_X12_readMore W1 a 22 = (W2, 0)) (e3 : f_X12_readMore W2 a 23 = (W3, 0)) : f_X12_readOrder W a = f_X12_readOrder_61 W3 a := by
  unfold f_X12_readOrder
  rw [dv_bn2 (m_take1 kx w8 hc), if_neg (by decide), dv_bn2 e1, dv_bn2 e2, dv_bn2 e3]
theorem m_or1 (kx : re_cx o cd vl pl W a) (w8 : W a 21 0 = -1) (hc : cd (W a 19 0) = 24) (e1 : f_X12_readSum 8 (dv_u W a 19 0 (W a 19 0 + 1)) a 0 = (W1, y1)) : f_X12_readOrder W a = f_X12_readOrder_61 W1 a := by
  unfold f_X12_readOrder
  rw [dv_bn2 (m_take0 kx (fun _ => by omega)), if_pos rfl, dv_bn2 (m_take1 kx w8 hc), if_neg (by decide), dv_bn2 e1]
theorem m_or2 (kx : re_cx o cd vl pl W a) (w8 : W a 21 0 = -1) (hc : cd (W a 19 0) = 25 ∨ cd (W a 19 0) = 26) : f_X12_readOrder W a = f_X12_readOrder_61 (dv_u W a 19 0 (W a 19 0 + 1)) a := by
  unfold f_X12_readOrder
  rw [dv_bn2 (m_take0 kx (fun _ => by omega)), if_pos rfl, dv_bn2 (m_take0 kx (fun _ => by omega)), if_pos rfl]
  rcases hc with hc | hc
  · rw [dv_bn2 (m_take1 kx w8 hc), if_pos (by decide)]
  · rw [dv_bn2 (m_take0 kx (fun _ => by omega)), if_neg (fun q => q rfl), dv_bn2 (m_must1 kx w8 hc)]
theorem m_orN (kx : re_cx o cd vl pl W a) (w8 : W a 21 0 = -1) (hc : cd (W a 19 0) ≠ 21 ∧ cd (W a 19 0) ≠ 24 ∧ cd (W a 19 0) ≠ 25 ∧ cd (W a 19 0) ≠ 26) (hp : pl (W a 19 0) ≠ -1) : f_X12_readOrder W a = (dv_u W a 21 0 (pl (W a 19 0)), 0) := by
  have k2 : re_cx o cd vl pl (dv_u W a 21 0 (pl (W a 19 0))) a := re_cx_f kx (re_fr_u (by decide))
  have n2 : dv_u W a 21 0 (pl (W a 19 0)) a 21 0 ≠ -1 := by rw [u_e]; exact hp
  unfold f_X12_readOrder f_X12_readOrder_61 f_X12_readOrder_77
  rw [dv_bn2 (m_take0 kx (fun _ => hc.1)), if_pos rfl, dv_bn2 (m_take0 kx (fun _ => hc.2.1)), if_pos rfl, dv_bn2 (m_take0 kx (fun _ => hc.2.2.1)), if_neg (fun q => q rfl), dv_bn2 (m_must0 kx w8 hc.2.2.2), dv_bn2 (m_take0 k2 (fun q => absurd q n2)), if_pos rfl, dv_bn2 (m_take0 k2 (fun q => absurd q n2)), if_pos rfl]
/-- a clause of orders is read the same way -/
theorem rc_clO (ts : rd_ts tk pl cd vl N) (o1 : o = 1) (hi : rd_in o tk pl cd vl N V W r x a) (h7 : V r 7 0 = 0) (h3 : V x 3 0 = k - 1) (k1 : 1 ≤ k) (k12 : k ≤ 12) : ∃ (V' W' : dV), f_X5_readClause V r = (V', 0) ∧ f_X12_readOne W a = (W', 0) ∧ rc_out o pl cd vl N k V W r x a V' W' := by
  obtain ⟨T1, T2⟩ := rd_tT hi
  obtain ⟨-, cx, kx, h8, w8, at0⟩ := id hi
  have tb := tk_bd T1
  by_cases hv : 304 ≤ tk (V r 5 0) ∧ tk (V r 5 0) ≤ 307
  · obtain ⟨U, eU, pU, fU, u5, u2, u0, u4, u8, m0, m1⟩ := rc_first ts hi h7 h3 k1 k12 (by omega) (tk (V r 5 0) - 304)
    have e1 := c_clO cx o1 hv.1 hv.2 eU u4
    -- what is left to tell of a clause
    have FIN : ∀ {V' W' : dV} {ns : Int}, rk_go pl N k U (dv_u W a 19 0 (W a 19 0 + 1)) r x a V' W' → mkv V' x k 0 = mkv U x k 0 → (V' r 8 0 = -1 → cl_bd o cd vl ns (U r 5 0) (V' r 5 0) (mkv U x k 1) (V' x 0) (fun w => mkv V' x k w) (V' x 2 0)) → ns = (if tk (V r 5 0) - 304 = 0 then 3 else if tk (V r 5 0) - 304 = 1 then 1 else 0) → (cd (V r 5 0) = if tk (V r 5 0) - 304 = 0 then 21 else 23 + (tk (V r 5 0) - 304)) → rc_out o pl cd vl N k V W r x a V' W' := by
      intro V' W' ns g n0 q hns hcd
      refine rc_outg pU fU (re_fr_u (by decide)) u5 u2 u0 g (fun z => Or.inr ⟨o1, ?_, ?_, ?_⟩)
      · show 0 ≤ mkv V' x k 0 ∧ mkv V' x k 0 ≤ 3
        rw [n0, m0]; omega
      · show cd (V r 5 0) = if mkv V' x k 0 = 0 then 21 else 23 + mkv V' x k 0
        rw [n0, m0]; exact hcd
      · show cl_bd o cd vl (if mkv V' x k 0 = 0 then 3 else if mkv V' x k 0 = 1 then 1 else 0) _ _ _ _ _ _
        have qz := q z
        rw [u5, m1, hns] at qz
        rw [n0, m0]
        exact qz
    by_cases e0 : tk (V r 5 0) - 304 = 0
    · rw [if_pos e0] at e1
      have hc : cd (V r 5 0) = 21 := by unfold rd_tk rd_wp at T1; omega
      obtain ⟨V', W1, y1, W2, W3, W', e3, f1, f2, f3, f4, g, n0, q⟩ := rc_b3 ts pU k1 k12
      have em := m_clO kx o1 ((m_or0 kx w8 (by rw [at0.1]; exact hc) f1 f2 f3).trans (f4 o1))
      exact ⟨V', W', e1.trans e3, em, FIN g n0 q (by rw [if_pos e0]) (by rw [if_pos e0]; exact hc)⟩
    · rw [if_neg e0] at e1
      by_cases e2 : tk (V r 5 0) - 304 = 1
      · rw [if_pos e2] at e1
        have hc : cd (V r 5 0) = 24 := by unfold rd_tk rd_wp at T1; omega
        obtain ⟨V', W1, y1, W', e3, f1, -, f4, g, n0, q⟩ := rc_b1 ts pU k1 k12
        have em := m_clO kx o1 ((m_or1 kx w8 (by rw [at0.1]; exact hc) f1).trans (f4 o1))
        exact ⟨V', W', e1.trans e3, em, FIN g n0 q (by rw [if_neg e0, if_pos e2]) (by rw [if_neg e0, e2]; omega)⟩
      · rw [if_neg e2] at e1
        have hc : cd (V r 5 0) = tk (V r 5 0) - 281 := by unfold rd_tk rd_wp at T1; omega
        obtain ⟨V', W', e3, -, f4, g, n0, q⟩ := rc_b0 ts pU k1 k12
        have em := m_clO kx o1 ((m_or2 kx w8 (by rw [at0.1]; omega)).trans (f4 o1))
        exact ⟨V', W', e1.trans e3, em, FIN g n0 q (by rw [if_neg e0, if_neg e2]) (by rw [if_neg e0]; omega)⟩
  · have e1 := c_clN cx tb (Or.inr ⟨o1, hv⟩)
    rw [c_fail cx h8] at e1
    have hc : cd (V r 5 0) ≠ 21 ∧ cd (V r 5 0) ≠ 24 ∧ cd (V r 5 0) ≠ 25 ∧ cd (V r 5 0) ≠ 26 := by unfold rd_tk rd_wp at T1; omega
    have em := m_clO kx o1 (m_orN kx w8 (by rw [at0.1]; exact hc) (by rw [at0.1]; omega))
    rw [at0.1] at em
    refine ⟨_, _, e1, em, fun b m z n1 n2 n3 => ?_, re_fr_u (by decide), by show dv_u _ _ _ _ _ _ _ _ = _; rw [u_j (by decide), h7], by show dv_u _ _ _ _ _ _ _ _ = dv_u _ _ _ _ _ _ _ _; rw [u_e, u_e], fun q => ?_⟩
    · exact rd_fr_u (x := x) (by decide) b m z n1 (fun q => n2 ⟨q.1, q.2.elim Or.inl (fun z => Or.inr (Or.inl z))⟩)
    · have q' : dv_u V r 8 0 (pl (V r 5 0)) r 8 0 = -1 := q
      rw [u_e] at q'
      omega
end QRW
section QSA
variable {V V' V1 V2 U W W' W1 W2 : dV} {r x a i t c v o p N k s s' b j : Int} {tk pl cd vl X X' M M' : Int → Int}
theorem cl_bd_c {ns t0 : Int} (h : cl_bd o cd vl ns i j t0 X M s) (hX : ∀ z, z < s → X' z = X z) (hM : ∀ w, 0 ≤ w → w < 8 → M' w = M w) (hs : s ≤ s') : cl_bd o cd vl ns i j t0 X' M' s' := by
  obtain ⟨m, m', h1, h2, ⟨h3, h4⟩, h5⟩ := h
  have e1 := hM 1 (by decide) (by decide)
  have e2 := hM 2 (by decide) (by decide)
  have e3 := hM 3 (by decide) (by decide)
  have e4 := hM 4 (by decide) (by decide)
  have e5 := hM 5 (by decide) (by decide)
  have e6 := hM 6 (by decide) (by decide)
  have e7 := hM 7 (by decide) (by decide)
  refine ⟨m, m', ?_, by rw [e1]; exact h2, ⟨?_, by rw [e7]; omega⟩, by rw [e5]; omega⟩
  · rw [e2, e3, e4, e5]
    rcases h1 with ⟨a1, a2, a3, a4, a5⟩ | ⟨a1, a2, a3, a4, A, a5, a6⟩ | ⟨a1, j1, j2, A0, A1, A2, l, D0, c0, D1, c1, D2, K0, K1, K2⟩
    · exact Or.inl ⟨a1, a2, a3, a4, a5⟩
    · exact Or.inr (Or.inl ⟨a1, a2, a3, a4, A, a5, K_seg_c a6 (fun z _ z1 => hX z (by omega))⟩)
    · have l1 := K1.1
      have l2 := K2.1
      exact Or.inr (Or.inr ⟨a1, j1, j2, A0, A1, A2, l, D0, c0, D1, c1, D2, K_seg_c K0 (fun z _ z1 => hX z (by omega)), K_seg_c K1 (fun z _ z1 => hX z (by omega)), K_seg_c K2 (fun z _ z1 => hX z (by omega))⟩)
  · rw [e6, e7]
    rcases h3 with h3 | ⟨b1, b2, T, b3, b4⟩
    · exact Or.inl h3
    · exact Or.inr ⟨b1, b2, T, b3, K_seg_c b4 (fun z _ z1 => hX z (by omega))⟩
theorem cl_ok_c (h : cl_ok o cd vl i j X M s) (hX : ∀ z, z < s → X' z = X z) (hM : ∀ w, 0 ≤ w → w < 8 → M' w = M w) (hs : s ≤ s') : cl_ok o cd vl i j X' M' s' := by
  have e0 := hM 0 (by decide) (by decide)
  rcases h with ⟨a1, a2, a3, a4⟩ | ⟨a1, a2, a3, a4⟩
  · exact Or.inl ⟨a1, by rw [e0]; exact a2, by rw [e0]; exact a3, by rw [e0]; exact cl_bd_c a4 hX hM hs⟩
  · exact Or.inr ⟨a1, by rw [e0]; exact a2, by rw [e0]; exact a3, by rw [e0]; exact cl_bd_c a4 hX hM hs⟩
/-- n clauses, each with its ';', end before token i -/
def tx_c (o : Int) (cd vl X M : Int → Int) (s : Int) : Nat → Int → Prop
  | 0, i => i = 0
  | n + 1, i => ∃ b e, tx_c o cd vl X M s n b ∧ b < e ∧ cl_ok o cd vl b e X (fun w => M ((n : Int) * 8 + w)) s ∧ cd e = 159 ∧ i = e + 1
/-- n clauses are the whole text of N tokens -/
def tx_ok (o : Int) (cd vl X M : Int → Int) (s N n : Int) : Prop := ∃ (m : Nat) (b : Int), n = (m : Int) + 1 ∧ m ≤ 11 ∧ tx_c o cd vl X M s m b ∧ b < N ∧ cl_ok o cd vl b N X (fun w => M ((m : Int) * 8 + w)) s
theorem tx_c_c {n : Nat} (hX : ∀ z, z < s → X' z = X z) (hM : ∀ z, 0 ≤ z → z < (n : Int) * 8 → M' z = M z) (hs : s ≤ s') : ∀ {i : Int}, tx_c o cd vl X M s n i → tx_c o cd vl X' M' s' n i := by
  induction n with
  | zero => exact fun h => h
  | succ n ih =>
    rintro i ⟨b, e, h1, h2, h3, h4, h5⟩
    exact ⟨b, e, ih (fun z z0 z1 => hM z z0 (by omega)) h1, h2, cl_ok_c h3 hX (fun w w0 w1 => hM _ (by omega) (by omega)) hs, h4, h5⟩
theorem tx_c_0 {n : Nat} : ∀ {i : Int}, tx_c o cd vl X M s n i → 0 ≤ i := by
  induction n with
  | zero => intro i h; have h : i = 0 := h; omega
  | succ n ih =>
    rintro i ⟨b, e, h1, h2, h3, h4, h5⟩
    have := ih h1
    omega
theorem tx_ok_c {n : Int} (hX : ∀ z, z < s → X' z = X z) (hM : ∀ z, 0 ≤ z → z < n * 8 → M' z = M z) (hs : s ≤ s') (h : tx_ok o cd vl X M s N n) : tx_ok o cd vl X' M' s' N n := by
  obtain ⟨m, b, h1, h2, h3, h4, h5⟩ := h
  exact ⟨m, b, h1, h2, tx_c_c hX (fun z z0 z1 => hM z z0 (by omega)) hs h3, h4, cl_ok_c h5 hX (fun w w0 w1 => hM _ (by omega) (by omega)) hs⟩
theorem rc_cl (ts : rd_ts tk pl cd vl N) (hi : rd_in o tk pl cd vl N V W r x a) (h7 : V r 7 0 = 0) (h3 : V x 3 0 = k - 1) (k1 : 1 ≤ k) (k12 : k ≤ 12) : ∃ (V' W' : dV), f_X5_readClause V r = (V', 0) ∧ f_X12_readOne W a = (W', 0) ∧ rc_out o pl cd vl N k V W r x a V' W' := by
  rcases hi.2.1.2.2.2.2.2 with o0 | o1
  · exact rc_clL ts o0 hi h7 h3 k1 k12
  · exact rc_clO ts o1 hi h7 h3 k1 k12
def rd_ff (r x : Int) (V V' : dV) : Prop := ∀ b m z, ¬ (b = r ∧ (m = 5 ∨ m = 6 ∨ m = 7 ∨ m = 8)) → ¬ (b = x ∧ m ≤ 3) → V' b m z = V b m z
def re_ff (a : Int) (W W' : dV) : Prop := ∀ b m z, ¬ (b = a ∧ (m = 14 ∨ m = 19 ∨ m = 20 ∨ m = 21)) → W' b m z = W b m z
theorem rd_ff_t (h : rd_ff r x V V') (h1 : rd_ff r x V' V1) : rd_ff r x V V1 := fun b j z k k1 => (h1 b j z k k1).trans (h b j z k k1)
theorem re_ff_t (h : re_ff a W W') (h1 : re_ff a W' W1) : re_ff a W W1 := fun b j z k => (h1 b j z k).trans (h b j z k)
theorem rd_ff_k (h : kc_fr k r x V V') : rd_ff r x V V' := fun b m z n1 n2 => h b m z n1 (fun q => n2 ⟨q.1, by omega⟩) (fun q => n2 ⟨q.1, by omega⟩)
theorem rd_ff_d (h : rd_fr r x V V') : rd_ff r x V V' := fun b m z n1 n2 => h b m z n1 (fun q => n2 ⟨q.1, by omega⟩)
theorem re_ff_d (h : re_fr a W W') : re_ff a W W' := fun b m z n => h b m z (fun q => n ⟨q.1, by omega⟩)
theorem re_ff_14 {y : Int} : re_ff a W (dv_u W a 14 0 y) := fun b m z n => by
  unfold dv_u
  rw [if_neg (fun e => n ⟨e.1, Or.inl e.2.1⟩)]
-- the reference's loop
theorem m_34_end (kx : re_cx o cd vl pl W a) (w8 : W a 21 0 = -1) (hc : cd (W a 19 0) ≠ 100 + 59) (he : W a 18 0 ≤ W a 19 0) : dv_lp f_X12_reads_34b (W, a, j) = (dv_u W a 14 0 (-1), 1) := by
  refine dv_lp_e ?_
  rw [f_X12_reads_34e]
  unfold f_X12_reads_34c
  rw [dv_bn2 q_sign, dv_bn2 (m_take0 kx (fun _ => hc)), if_pos rfl, dv_bn2 (m_fine1 w8), if_neg (by decide), bq, bq, if_pos he, bq, w8, bq, dv_bn2 (m_fine1 (by rw [u_j (by decide)]; exact w8))]
theorem m_34_bad (kx : re_cx o cd vl pl W a) (w8 : W a 21 0 = -1) (hc : cd (W a 19 0) ≠ 100 + 59) (he : W a 19 0 < W a 18 0) (hp : pl (W a 19 0) ≠ -1) : dv_lp f_X12_reads_34b (W, a, j) = (dv_u (dv_u W a 21 0 (pl (W a 19 0))) a 14 0 (pl (W a 19 0)), 0) := by
  refine dv_lp_e ?_
  rw [f_X12_reads_34e]
  unfold f_X12_reads_34c
  rw [dv_bn2 q_sign, dv_bn2 (m_take0 kx (fun _ => hc)), if_pos rfl, dv_bn2 (m_fine1 w8), if_neg (by decide), bq, bq, if_neg (by omega), dv_bn2 (m_faults kx w8), bq, u_e, bq, dv_bn2 (m_fine0 (by rw [u_j (by decide), u_e]; exact hp))]
theorem m_34_f (kx : re_cx o cd vl pl W a) (w8 : W a 21 0 ≠ -1) : dv_lp f_X12_reads_34b (W, a, j) = (dv_u W a 14 0 (W a 21 0), 0) := by
  refine dv_lp_e ?_
  rw [f_X12_reads_34e]
  unfold f_X12_reads_34c
  rw [dv_bn2 q_sign, dv_bn2 (m_take0 kx (fun q => absurd q w8)), if_pos rfl, dv_bn2 (m_fine0 w8), if_pos rfl, bq, bq, dv_bn2 (m_fine0 (by rw [u_j (by decide)]; exact w8))]
theorem m_34_on (kx : re_cx o cd vl pl W a) (w8 : W a 21 0 = -1) (hc : cd (W a 19 0) = 100 + 59) (j1 : 1 ≤ j) (j11 : j ≤ 11) (hr : f_X12_readOne (dv_u W a 19 0 (W a 19 0 + 1)) a = (W1, 0)) : dv_lp f_X12_reads_34b (W, a, j) = dv_lp f_X12_reads_34b (W1, a, j + 1) := by
  refine dv_lp_s ?_
  rw [f_X12_reads_34e]
  unfold f_X12_reads_34c
  rw [dv_bn2 q_sign, dv_bn2 (m_take1 kx w8 hc), if_neg (by decide), if_pos (show j ≠ 12 by omega), dv_bn2 (m_fine1 (by rw [u_j (by decide)]; exact w8)), if_neg (by decide), dv_bn2 hr, dv_add_ok (by omega) (by omega) (by omega) (by omega) (by omega) (by omega), bq]
theorem m_34_12 (kx : re_cx o cd vl pl W a) (w8 : W a 21 0 = -1) (hc : cd (W a 19 0) = 100 + 59) (hp : pl (W a 19 0 + 1) ≠ -1) : dv_lp f_X12_reads_34b (W, a, 12) = (dv_u (dv_u (dv_u W a 19 0 (W a 19 0 + 1)) a 21 0 (pl (W a 19 0 + 1))) a 14 0 (pl (W a 19 0 + 1)), 0) := by
  have k1 : re_cx o cd vl pl (dv_u W a 19 0 (W a 19 0 + 1)) a := re_cx_f kx (re_fr_u (by decide))
  have ef := m_faults k1 (by rw [u_j (by decide)]; exact w8)
  rw [u_e] at ef
  have k2 : re_cx o cd vl pl (dv_u (dv_u W a 19 0 (W a 19 0 + 1)) a 21 0 (pl (W a 19 0 + 1))) a := re_cx_f k1 (re_fr_u (by decide))
  have n2 : dv_u (dv_u W a 19 0 (W a 19 0 + 1)) a 21 0 (pl (W a 19 0 + 1)) a 21 0 ≠ -1 := by rw [u_e]; exact hp
  have h := m_34_f (j := 13) k2 n2
  rw [u_e] at h
  rw [← h]
  refine dv_lp_s ?_
  rw [f_X12_reads_34e]
  unfold f_X12_reads_34c
  rw [dv_bn2 q_sign, dv_bn2 (m_take1 kx w8 hc), if_neg (by decide), if_neg (fun q => q rfl), dv_bn2 ef, dv_bn2 (m_fine0 n2), if_pos rfl, bq]
  rfl
-- the class's loop
theorem c_49_f (cx : rd_cx o tk pl V1 r x) (h8 : V r 8 0 = -1) (c11 : c ≤ 11) (hr : f_X5_readClause V r = (V1, 0)) (n8 : V1 r 8 0 ≠ -1) : dv_lp f_X5_read_49b (V, r, c) = (V1, V1 r 8 0) := by
  refine dv_lp_e ?_
  rw [f_X5_read_49e]
  unfold f_X5_read_49c
  rw [if_neg (by omega), bq, if_neg (fun q => q h8), dv_bn2 hr, dv_bn2 (c_take0 cx (fun q => absurd q n8)), if_neg (fun q => q rfl), bq, bq]
  by_cases e : V1 r 0 (V1 r 5 0) = -1
  · rw [if_pos e, bq]
  · rw [if_neg e, dv_bn2 (c_fail_f n8), bq]
theorem c_49_end (cx : rd_cx o tk pl V1 r x) (h8 : V r 8 0 = -1) (c11 : c ≤ 11) (hr : f_X5_readClause V r = (V1, 0)) (n8 : V1 r 8 0 = -1) (ht : tk (V1 r 5 0) = -1) : dv_lp f_X5_read_49b (V, r, c) = (V1, -1) := by
  refine dv_lp_e ?_
  rw [f_X5_read_49e]
  unfold f_X5_read_49c
  rw [if_neg (by omega), bq, if_neg (fun q => q h8), dv_bn2 hr, dv_bn2 (c_take0 cx (fun _ => by rw [ht]; decide)), if_neg (fun q => q rfl), bq, bq, cx.1, if_pos ht, bq, n8]
theorem c_49_bad (cx : rd_cx o tk pl V1 r x) (h8 : V r 8 0 = -1) (c11 : c ≤ 11) (hr : f_X5_readClause V r = (V1, 0)) (n8 : V1 r 8 0 = -1) (ht : tk (V1 r 5 0) ≠ -1) (hs : tk (V1 r 5 0) ≠ 59) : dv_lp f_X5_read_49b (V, r, c) = (dv_u V1 r 8 0 (pl (V1 r 5 0)), pl (V1 r 5 0)) := by
  refine dv_lp_e ?_
  rw [f_X5_read_49e]
  unfold f_X5_read_49c
  rw [if_neg (by omega), bq, if_neg (fun q => q h8), dv_bn2 hr, dv_bn2 (c_take0 cx (fun _ => hs)), if_neg (fun q => q rfl), bq, bq, cx.1, if_neg ht, dv_bn2 (c_fail cx n8), bq, u_e]
theorem c_49_on (cx : rd_cx o tk pl V1 r x) (h8 : V r 8 0 = -1) (c11 : c ≤ 11) (hr : f_X5_readClause V r = (V1, 0)) (n8 : V1 r 8 0 = -1) (ht : tk (V1 r 5 0) = 59) : dv_lp f_X5_read_49b (V, r, c) = dv_lp f_X5_read_49b (dv_u V1 r 5 0 (V1 r 5 0 + 1), r, c + 1) := by
  refine dv_lp_s ?_
  rw [f_X5_read_49e]
  unfold f_X5_read_49c
  rw [if_neg (by omega), bq, if_neg (fun q => q h8), dv_bn2 hr, dv_bn2 (c_take1 cx n8 ht), if_pos (by decide), bq]
theorem c_49_12 (cx : rd_cx o tk pl V r x) (h8 : V r 8 0 = -1) (c12 : 12 ≤ c) : dv_lp f_X5_read_49b (V, r, c) = (dv_u V r 8 0 (pl (V r 5 0)), pl (V r 5 0)) := by
  refine dv_lp_e ?_
  rw [f_X5_read_49e]
  unfold f_X5_read_49c
  rw [if_pos c12]
  unfold f_X5_read_105
  rw [dv_bn2 (c_fail cx h8), bq, u_e]
/-- what both have when a text is read -/
def rr_out (o : Int) (cd vl : Int → Int) (N : Int) (V W : dV) (r x a : Int) (V' : dV) (y : Int) (W' : dV) (y' : Int) : Prop := rd_ff r x V V' ∧ re_ff a W W' ∧ V' r 8 0 = y ∧ W' a 14 0 = y ∧ ((y = -1 ∧ y' = 1 ∧ 0 ≤ V' x 2 0 ∧ tx_ok o cd vl (V' x 0) (V' x 1) (V' x 2 0) N (V' x 3 0)) ∨ (y ≠ -1 ∧ y' = 0))
def rr_P (o : Int) (tk pl cd vl : Int → Int) (N r x a : Int) (n : Nat) : Prop := ∀ (m : Nat) (V W : dV), m + n = 11 → rd_in o tk pl cd vl N V W r x a → V r 7 0 = 0 → V x 3 0 = (m : Int) → W a 18 0 = N → tx_c o cd vl (V x 0) (V x 1) (V x 2 0) m (V r 5 0) → ∃ (V' : dV) (y : Int) (W1 W' : dV) (y' : Int), dv_lp f_X5_read_49b (V, r, (m : Int)) = (V', y) ∧ f_X12_readOne W a = (W1, 0) ∧ dv_lp f_X12_reads_34b (W1, a, (m : Int) + 1) = (W', y') ∧ rr_out o cd vl N V W r x a V' y W' y'
theorem rr_S (ts : rd_ts tk pl cd vl N) (n : Nat) (ih : ∀ n', n = n' + 1 → rr_P o tk pl cd vl N r x a n') : rr_P o tk pl cd vl N r x a n := by
  intro m V W hm hi h7 h3 h18 hT
  obtain ⟨V1, W1, e1, e2, g1, g2, g7, g8, g9⟩ := rc_cl (k := (m : Int) + 1) ts hi h7 (by omega) (by omega) (by omega)
  obtain ⟨-, cx, kx, h8, w8, at0⟩ := id hi
  have c5 := cx.2.2.2.2.1
  have F1 := rd_ff_k g1
  have G1 := re_ff_d g2
  have k1 := re_cx_f kx g2
  have cx1 : rd_cx o tk pl V1 r x := by
    obtain ⟨h1, h2, h3, h4, h5, h6⟩ := cx
    have q : ∀ (j : Nat) (z : Int), j < 5 → V1 r j z = V r j z := fun j z hj => F1 r j z (fun q => by omega) (fun q => h5 q.1.symm)
    exact ⟨fun z => by rw [q 0 z (by decide)]; exact h1 z, fun z => by rw [q 1 z (by decide)]; exact h2 z, by rw [q 3 0 (by decide)]; exact h3, by rw [q 4 0 (by decide)]; exact h4, h5, h6⟩
  by_cases n8 : V1 r 8 0 = -1
  case neg =>
    have e3 := c_49_f (c := (m : Int)) cx1 h8 (by omega) e1 n8
    have e4 := m_34_f (j := (m : Int) + 1) k1 (by rw [g8]; exact n8)
    rw [g8] at e4
    exact ⟨_, _, _, _, _, e3, e2, e4, F1, re_ff_t G1 re_ff_14, rfl, u_e, Or.inr ⟨n8, rfl⟩⟩
  case pos =>
    obtain ⟨x3, at1, l5, l2, lX, hC⟩ := g9 n8
    have w18 : W1 a 21 0 = -1 := g8.trans n8
    have hi1 : rd_in o tk pl cd vl N V1 W1 r x a := ⟨ts, cx1, k1, n8, w18, at1⟩
    obtain ⟨T1, T2⟩ := rd_tT hi1
    have a19 := at1.1
    have W18 : W1 a 18 0 = N := by rw [g2 a 18 0 (fun q => absurd q.2 (by decide))]; exact h18
    -- all that was read
    have hM : ∀ z, 0 ≤ z → z < (m : Int) * 8 → V1 x 1 z = V x 1 z := fun z z0 z1 => g1 x 1 z (fun q => c5 q.1) (fun q => absurd q.2 (by decide)) (fun q => absurd q.2.2.1 (by omega))
    have hT1 : tx_c o cd vl (V1 x 0) (V1 x 1) (V1 x 2 0) m (V r 5 0) := tx_c_c lX hM l2 hT
    have hC1 : cl_ok o cd vl (V r 5 0) (V1 r 5 0) (V1 x 0) (fun w => V1 x 1 ((m : Int) * 8 + w)) (V1 x 2 0) := by
      have q : (fun w => mkv V1 x ((m : Int) + 1) w) = fun w => V1 x 1 ((m : Int) * 8 + w) := by
        funext w
        show V1 x 1 (((m : Int) + 1 - 1) * 8 + w) = _
        rw [show (m : Int) + 1 - 1 = m by omega]
      rw [← q]
      exact hC
    by_cases hs : tk (V1 r 5 0) = 59
    case neg =>
      have hc : cd (W1 a 19 0) ≠ 100 + 59 := by rw [a19]; exact fun q => hs ((rd_sg T1 (b := 59) (by decide) (by decide)).mpr q)
      by_cases ht : tk (V1 r 5 0) = -1
      · have e3 := c_49_end (c := (m : Int)) cx1 h8 (by omega) e1 n8 ht
        have hN : V1 r 5 0 = N := by
          have l := at1.2.1
          by_cases q : V1 r 5 0 < N
          · exact absurd ht ((ts.2.2 _ l.1 l.2).2.2 q).1
          · omega
        have e4 := m_34_end (j := (m : Int) + 1) k1 w18 hc (by rw [W18, a19]; omega)
        refine ⟨_, _, _, _, _, e3, e2, e4, F1, re_ff_t G1 re_ff_14, n8, u_e, Or.inl ⟨rfl, rfl, at1.2.2.2.2.1, m, V r 5 0, by omega, by omega, hT1, by omega, ?_⟩⟩
        rw [hN] at hC1
        exact hC1
      · have e3 := c_49_bad (c := (m : Int)) cx1 h8 (by omega) e1 n8 ht hs
        have hN : V1 r 5 0 < N := by
          have l := at1.2.1
          by_cases q : V1 r 5 0 = N
          · rw [q] at ht; exact absurd ts.2.1 ht
          · omega
        have e4 := m_34_bad (j := (m : Int) + 1) k1 w18 hc (by rw [W18, a19]; exact hN) (by rw [a19]; omega)
        rw [a19] at e4
        exact ⟨_, _, _, _, _, e3, e2, e4, rd_ff_t F1 (rd_ff_d (rd_fr_u (by decide))), re_ff_t (re_ff_t G1 (re_ff_d (re_fr_u (by decide)))) re_ff_14, u_e, u_e, Or.inr ⟨by omega, rfl⟩⟩
    case pos =>
      have hc : cd (V1 r 5 0) = 100 + 59 := (rd_sg T1 (b := 59) (by decide) (by decide)).mp hs
      obtain ⟨i1, p1, S1, q1⟩ := rd_iN hi1 (by omega)
      have v1 := @rd_w1 (tk (V1 r 5 0))
      have e3 := c_49_on (c := (m : Int)) cx1 h8 (by omega) e1 n8 hs
      have F2 : rd_fr r x V1 (dv_u V1 r 5 0 (V1 r 5 0 + 1)) := rd_fr_u (by decide)
      have z5 : dv_u V1 r 5 0 (V1 r 5 0 + 1) r 5 0 = V1 r 5 0 + 1 := u_e
      have z6 : dv_u V1 r 5 0 (V1 r 5 0 + 1) r 6 0 = V1 r 6 0 := u_j (by decide)
      have z7 : dv_u V1 r 5 0 (V1 r 5 0 + 1) r 7 0 = 0 := by rw [u_j (by decide), g7]
      have z8 : dv_u V1 r 5 0 (V1 r 5 0 + 1) r 8 0 = -1 := by rw [u_j (by decide), n8]
      have zx : ∀ m z, dv_u V1 r 5 0 (V1 r 5 0 + 1) x m z = V1 x m z := fun m z => u_b c5
      generalize dv_u V1 r 5 0 (V1 r 5 0 + 1) = V2 at e3 F2 z5 z6 z7 z8 zx
      have cx2 := rd_cx_f cx1 F2
      cases n with
      | zero =>
        have m11 : m = 11 := by omega
        subst m11
        have e5 := c_49_12 (c := ((11 : Nat) : Int) + 1) cx2 z8 (by omega)
        rw [z5] at e5
        have e4 := m_34_12 k1 w18 (by rw [a19]; exact hc) (by rw [a19]; omega)
        rw [a19] at e4
        exact ⟨_, _, _, _, _, e3.trans e5, e2, e4, rd_ff_t (rd_ff_t F1 (rd_ff_d F2)) (rd_ff_d (rd_fr_u (by decide))), re_ff_t (re_ff_t (re_ff_t G1 (re_ff_d (re_fr_u (by decide)))) (re_ff_d (re_fr_u (by decide)))) re_ff_14, u_e, u_e, Or.inr ⟨by omega, rfl⟩⟩
      | succ n =>
        have G2 : re_fr a W1 (dv_u W1 a 19 0 (W1 a 19 0 + 1)) := re_fr_u (by decide)
        have y18 : dv_u W1 a 19 0 (W1 a 19 0 + 1) a 18 0 = N := by rw [u_j (by decide), W18]
        have y19 : dv_u W1 a 19 0 (W1 a 19 0 + 1) a 19 0 = V1 r 5 0 + 1 := by rw [u_e, a19]
        have y20 : dv_u W1 a 19 0 (W1 a 19 0 + 1) a 20 0 = V1 r 6 0 := by rw [u_j (by decide), at1.2.2.1]
        have y21 : dv_u W1 a 19 0 (W1 a 19 0 + 1) a 21 0 = -1 := by rw [u_j (by decide), w18]
        have e4 := fun (U : dV) => m_34_on (W1 := U) (j := (m : Int) + 1) k1 w18 (by rw [a19]; exact hc) (by omega) (by omega)
        generalize dv_u W1 a 19 0 (W1 a 19 0 + 1) = W2 at G2 y18 y19 y20 y21 e4
        have at2 : rd_at pl N V2 W2 r x a := ⟨by rw [y19, z5], by rw [z5]; have := at1.2.1; omega, by rw [y20, z6], by rw [z6]; exact at1.2.2.2.1, by rw [zx]; exact at1.2.2.2.2.1, by rw [zx, z5]; have := at1.2.2.2.2.2; omega⟩
        have hi2 : rd_in o tk pl cd vl N V2 W2 r x a := ⟨ts, cx2, re_cx_f k1 G2, z8, y21, at2⟩
        have hT2 : tx_c o cd vl (V2 x 0) (V2 x 1) (V2 x 2 0) (m + 1) (V2 r 5 0) := by
          rw [show V2 x 0 = V1 x 0 from funext (zx 0), show V2 x 1 = V1 x 1 from funext (zx 1), zx, z5]
          exact ⟨V r 5 0, V1 r 5 0, hT1, l5, hC1, hc, rfl⟩
        obtain ⟨V', y, W3, W', y', f1, f2, f3, f4, f5, f6⟩ := ih n rfl (m + 1) V2 W2 (by omega) hi2 z7 (by rw [zx, x3]; omega) y18 hT2
        rw [show ((m + 1 : Nat) : Int) = (m : Int) + 1 by omega] at f1 f3
        exact ⟨V', y, W1, W', y', e3.trans f1, e2, (e4 W3 f2).trans f3, rd_ff_t (rd_ff_t F1 (rd_ff_d F2)) f4, re_ff_t (re_ff_t G1 (re_ff_d G2)) f5, f6⟩
theorem rr_L (ts : rd_ts tk pl cd vl N) (n : Nat) : rr_P o tk pl cd vl N r x a n := by
  induction n with
  | zero => exact rr_S ts 0 (fun n' h => absurd h (by omega))
  | succ n ih => exact rr_S ts (n + 1) (fun n' h => by cases h; exact ih)
end QSA
section QSB
variable {V V' W : dV} {r x a i t c v p q k w : Int}
def WL : List (List Int) := [[99, 111, 115, 116, 115], [119, 101, 97, 114, 115], [98, 97, 114, 115], [105, 102], [111, 114], [97, 110, 100], [110, 111, 116], [99, 97, 114, 112, 101, 116], [115, 105, 100, 101], [107, 105, 110, 100], [120], [121], [109, 111, 111, 100], [112, 105, 108, 101], [121, 101, 97, 114], [100, 111, 110, 101], [108, 97, 116, 101, 115, 116], [98, 97, 114, 101], [112, 97, 105, 100], [108, 97, 105, 100], [108, 97, 121], [97, 116], [98, 121], [114, 111, 108, 108], [109, 105, 114, 114, 111, 114], [112, 97, 115, 115], [116, 105, 109, 101, 115]]
def WT : List Int := [99, 111, 115, 116, 115, 32, 119, 101, 97, 114, 115, 32, 98, 97, 114, 115, 32, 105, 102, 32, 111, 114, 32, 97, 110, 100, 32, 110, 111, 116, 32, 99, 97, 114, 112, 101, 116, 32, 115, 105, 100, 101, 32, 107, 105, 110, 100, 32, 120, 32, 121, 32, 109, 111, 111, 100, 32, 112, 105, 108, 101, 32, 121, 101, 97, 114, 32, 100, 111, 110, 101, 32, 108, 97, 116, 101, 115, 116, 32, 98, 97, 114, 101, 32, 112, 97, 105, 100, 32, 108, 97, 105, 100, 32, 108, 97, 121, 32, 97, 116, 32, 98, 121, 32, 114, 111, 108, 108, 32, 109, 105, 114, 114, 111, 114, 32, 112, 97, 115, 115, 32, 116, 105, 109, 101, 115, 32]
/-- the bytes p .. q are the word u -/
def eqw (b : Int → Int) (p q : Int) (u : List Int) : Prop := q - p = (u.length : Int) ∧ ∀ i : Nat, i < u.length → b (p + i) = u.getD i 0
theorem eqw_c {b b' : Int → Int} {u : List Int} (h : ∀ z, p ≤ z → z < q → b' z = b z) (e : eqw b p q u) : eqw b' p q u := ⟨e.1, fun i hi => by rw [h _ (by omega) (by have := e.1; omega)]; exact e.2 i hi⟩
theorem eqw_u {b : Int → Int} {u u' : List Int} (h : eqw b p q u) (h' : eqw b p q u') : u = u' := by
  have hl : u.length = u'.length := by have := h.1; have := h'.1; omega
  refine List.ext_getElem hl (fun i h1 h2 => ?_)
  have e1 := h.2 i h1
  have e2 := h'.2 i h2
  rw [List.getD_eq_getElem?_getD, List.getElem?_eq_getElem h1] at e1
  rw [List.getD_eq_getElem?_getD, List.getElem?_eq_getElem h2] at e2
  exact e1.symm.trans e2
theorem WL_inj : ∀ c : Fin 27, ∀ d : Fin 27, WL.getD c.1 [] = WL.getD d.1 [] → c = d := by decide +kernel
theorem q_is {w1 : List Int32} {u : List Int} (hu : u.length = w1.length ∧ ∀ i : Nat, i < w1.length → u.getD i 0 = dv_ch (w1.getD i 0)) : ∃ y, f_X5_is w1 V r p q = (y, ()) ∧ (y = 1 ∧ eqw (V (V r 2 0) 0) p q u ∨ y = 0 ∧ ¬ eqw (V (V r 2 0) 0) p q u) := by
  obtain ⟨hl, hu⟩ := hu
  unfold f_X5_is
  rw [bq, bq]
  by_cases e : q - p = (w1.length : Int)
  · rw [if_pos e]
    refine dv_inv (P := fun s => ∃ j : Int, s = (V, r, p, q, j) ∧ p ≤ j ∧ j ≤ q ∧ ∀ i : Nat, p + i < j → V (V r 2 0) 0 (p + i) = u.getD i 0) (Q := fun z => ∃ y, z = (y, ()) ∧ (y = 1 ∧ eqw (V (V r 2 0) 0) p q u ∨ y = 0 ∧ ¬ eqw (V (V r 2 0) 0) p q u)) (m := fun s => (q - s.2.2.2.2).toNat) ?_ _ ⟨p, rfl, by omega, by omega, fun i h => absurd h (by omega)⟩
    rintro s ⟨j, rfl, j0, j1, hj⟩
    rw [f_X5_is_15e]
    unfold f_X5_is_15c
    by_cases e1 : q ≤ j
    · rw [if_pos e1]
      exact Or.inr ⟨_, rfl, 1, rfl, Or.inl ⟨rfl, by omega, fun i hi => hj i (by omega)⟩⟩
    · rw [if_neg e1, bq, bq, bq, bq]
      have hc := hu (j - p).toNat (by omega)
      by_cases e2 : V (V r 2 0) 0 j = dv_ch (w1.getD (j - p).toNat 0)
      · rw [if_pos e2, bq]
        refine Or.inl ⟨_, rfl, ⟨j + 1, rfl, by omega, by omega, fun i hi => ?_⟩, by dsimp only; omega⟩
        by_cases e3 : p + (i : Int) = j
        · rw [e3, e2, ← hc]; congr 1; omega
        · exact hj i (by omega)
      · rw [if_neg e2]
        refine Or.inr ⟨_, rfl, 0, rfl, Or.inr ⟨rfl, fun h => e2 ?_⟩⟩
        have h2 := h.2 (j - p).toNat (by omega)
        rw [hc, show p + ((j - p).toNat : Int) = j by omega] at h2
        exact h2
  · rw [if_neg e]
    exact ⟨0, rfl, Or.inr ⟨rfl, fun h => e (by rw [← hl]; exact h.1)⟩⟩
/-- the class's word -/
theorem q_wordFrom : ∃ t, f_X5_wordFrom V r p q = (t, ()) ∧ ((∃ k : Nat, k < 27 ∧ rd_wp t ((k : Int) + 1) ∧ eqw (V (V r 2 0) 0) p q (WL.getD k [])) ∨ t = 300 ∧ ∀ k : Nat, k < 27 → ¬ eqw (V (V r 2 0) 0) p q (WL.getD k [])) := by
  unfold f_X5_wordFrom
  obtain ⟨y0, e0, h0⟩ := q_is (V := V) (r := r) (p := p) (q := q) (w1 := [99, 111, 115, 116, 115]) (u := WL.getD 0 []) (by decide +kernel)
  rw [dv_bn2 e0]
  rcases h0 with ⟨g0, h0⟩ | ⟨g0, h0⟩
  · rw [g0, if_neg (by decide)]
    exact ⟨_, rfl, Or.inl ⟨0, by decide, by unfold rd_wp; omega, h0⟩⟩
  rw [g0, if_pos rfl]
  obtain ⟨y1, e1, h1⟩ := q_is (V := V) (r := r) (p := p) (q := q) (w1 := [119, 101, 97, 114, 115]) (u := WL.getD 1 []) (by decide +kernel)
  rw [dv_bn2 e1]
  rcases h1 with ⟨g1, h1⟩ | ⟨g1, h1⟩
  · rw [g1, if_neg (by decide)]
    exact ⟨_, rfl, Or.inl ⟨1, by decide, by unfold rd_wp; omega, h1⟩⟩
  rw [g1, if_pos rfl]
  obtain ⟨y2, e2, h2⟩ := q_is (V := V) (r := r) (p := p) (q := q) (w1 := [98, 97, 114, 115]) (u := WL.getD 2 []) (by decide +kernel)
  rw [dv_bn2 e2]
  rcases h2 with ⟨g2, h2⟩ | ⟨g2, h2⟩
  · rw [g2, if_neg (by decide)]
    exact ⟨_, rfl, Or.inl ⟨2, by decide, by unfold rd_wp; omega, h2⟩⟩
  rw [g2, if_pos rfl]
  obtain ⟨y3, e3, h3⟩ := q_is (V := V) (r := r) (p := p) (q := q) (w1 := [108, 97, 121]) (u := WL.getD 20 []) (by decide +kernel)
  rw [dv_bn2 e3]
  rcases h3 with ⟨g3, h3⟩ | ⟨g3, h3⟩
  · rw [g3, if_neg (by decide)]
    exact ⟨_, rfl, Or.inl ⟨20, by decide, by unfold rd_wp; omega, h3⟩⟩
  rw [g3, if_pos rfl]
  obtain ⟨y4, e4, h4⟩ := q_is (V := V) (r := r) (p := p) (q := q) (w1 := [114, 111, 108, 108]) (u := WL.getD 23 []) (by decide +kernel)
  rw [dv_bn2 e4]
  rcases h4 with ⟨g4, h4⟩ | ⟨g4, h4⟩
  · rw [g4, if_neg (by decide)]
    exact ⟨_, rfl, Or.inl ⟨23, by decide, by unfold rd_wp; omega, h4⟩⟩
  rw [g4, if_pos rfl]
  obtain ⟨y5, e5, h5⟩ := q_is (V := V) (r := r) (p := p) (q := q) (w1 := [109, 105, 114, 114, 111, 114]) (u := WL.getD 24 []) (by decide +kernel)
  rw [dv_bn2 e5]
  rcases h5 with ⟨g5, h5⟩ | ⟨g5, h5⟩
  · rw [g5, if_neg (by decide)]
    exact ⟨_, rfl, Or.inl ⟨24, by decide, by unfold rd_wp; omega, h5⟩⟩
  rw [g5, if_pos rfl]
  obtain ⟨y6, e6, h6⟩ := q_is (V := V) (r := r) (p := p) (q := q) (w1 := [112, 97, 115, 115]) (u := WL.getD 25 []) (by decide +kernel)
  rw [dv_bn2 e6]
  rcases h6 with ⟨g6, h6⟩ | ⟨g6, h6⟩
  · rw [g6, if_neg (by decide)]
    exact ⟨_, rfl, Or.inl ⟨25, by decide, by unfold rd_wp; omega, h6⟩⟩
  rw [g6, if_pos rfl]
  obtain ⟨y7, e7, h7⟩ := q_is (V := V) (r := r) (p := p) (q := q) (w1 := [105, 102]) (u := WL.getD 3 []) (by decide +kernel)
  rw [dv_bn2 e7]
  rcases h7 with ⟨g7, h7⟩ | ⟨g7, h7⟩
  · rw [g7, if_neg (by decide)]
    exact ⟨_, rfl, Or.inl ⟨3, by decide, by unfold rd_wp; omega, h7⟩⟩
  rw [g7, if_pos rfl]
  obtain ⟨y8, e8, h8⟩ := q_is (V := V) (r := r) (p := p) (q := q) (w1 := [116, 105, 109, 101, 115]) (u := WL.getD 26 []) (by decide +kernel)
  rw [dv_bn2 e8]
  rcases h8 with ⟨g8, h8⟩ | ⟨g8, h8⟩
  · rw [g8, if_neg (by decide)]
    exact ⟨_, rfl, Or.inl ⟨26, by decide, by unfold rd_wp; omega, h8⟩⟩
  rw [g8, if_pos rfl]
  obtain ⟨y9, e9, h9⟩ := q_is (V := V) (r := r) (p := p) (q := q) (w1 := [97, 116]) (u := WL.getD 21 []) (by decide +kernel)
  rw [dv_bn2 e9]
  rcases h9 with ⟨g9, h9⟩ | ⟨g9, h9⟩
  · rw [g9, if_neg (by decide)]
    exact ⟨_, rfl, Or.inl ⟨21, by decide, by unfold rd_wp; omega, h9⟩⟩
  rw [g9, if_pos rfl]
  obtain ⟨y10, e10, h10⟩ := q_is (V := V) (r := r) (p := p) (q := q) (w1 := [98, 121]) (u := WL.getD 22 []) (by decide +kernel)
  rw [dv_bn2 e10]
  rcases h10 with ⟨g10, h10⟩ | ⟨g10, h10⟩
  · rw [g10, if_neg (by decide)]
    exact ⟨_, rfl, Or.inl ⟨22, by decide, by unfold rd_wp; omega, h10⟩⟩
  rw [g10, if_pos rfl]
  obtain ⟨y11, e11, h11⟩ := q_is (V := V) (r := r) (p := p) (q := q) (w1 := [111, 114]) (u := WL.getD 4 []) (by decide +kernel)
  rw [dv_bn2 e11]
  rcases h11 with ⟨g11, h11⟩ | ⟨g11, h11⟩
  · rw [g11, if_neg (by decide)]
    exact ⟨_, rfl, Or.inl ⟨4, by decide, by unfold rd_wp; omega, h11⟩⟩
  rw [g11, if_pos rfl]
  obtain ⟨y12, e12, h12⟩ := q_is (V := V) (r := r) (p := p) (q := q) (w1 := [97, 110, 100]) (u := WL.getD 5 []) (by decide +kernel)
  rw [dv_bn2 e12]
  rcases h12 with ⟨g12, h12⟩ | ⟨g12, h12⟩
  · rw [g12, if_neg (by decide)]
    exact ⟨_, rfl, Or.inl ⟨5, by decide, by unfold rd_wp; omega, h12⟩⟩
  rw [g12, if_pos rfl]
  obtain ⟨y13, e13, h13⟩ := q_is (V := V) (r := r) (p := p) (q := q) (w1 := [110, 111, 116]) (u := WL.getD 6 []) (by decide +kernel)
  rw [dv_bn2 e13]
  rcases h13 with ⟨g13, h13⟩ | ⟨g13, h13⟩
  · rw [g13, if_neg (by decide)]
    exact ⟨_, rfl, Or.inl ⟨6, by decide, by unfold rd_wp; omega, h13⟩⟩
  rw [g13, if_pos rfl]
  obtain ⟨y14, e14, h14⟩ := q_is (V := V) (r := r) (p := p) (q := q) (w1 := [99, 97, 114, 112, 101, 116]) (u := WL.getD 7 []) (by decide +kernel)
  rw [dv_bn2 e14]
  rcases h14 with ⟨g14, h14⟩ | ⟨g14, h14⟩
  · rw [g14, if_neg (by decide)]
    exact ⟨_, rfl, Or.inl ⟨7, by decide, by unfold rd_wp; omega, h14⟩⟩
  rw [g14, if_pos rfl]
  obtain ⟨y15, e15, h15⟩ := q_is (V := V) (r := r) (p := p) (q := q) (w1 := [115, 105, 100, 101]) (u := WL.getD 8 []) (by decide +kernel)
  rw [dv_bn2 e15]
  rcases h15 with ⟨g15, h15⟩ | ⟨g15, h15⟩
  · rw [g15, if_neg (by decide)]
    exact ⟨_, rfl, Or.inl ⟨8, by decide, by unfold rd_wp; omega, h15⟩⟩
  rw [g15, if_pos rfl]
  obtain ⟨y16, e16, h16⟩ := q_is (V := V) (r := r) (p := p) (q := q) (w1 := [107, 105, 110, 100]) (u := WL.getD 9 []) (by decide +kernel)
  rw [dv_bn2 e16]
  rcases h16 with ⟨g16, h16⟩ | ⟨g16, h16⟩
  · rw [g16, if_neg (by decide)]
    exact ⟨_, rfl, Or.inl ⟨9, by decide, by unfold rd_wp; omega, h16⟩⟩
  rw [g16, if_pos rfl]
  obtain ⟨y17, e17, h17⟩ := q_is (V := V) (r := r) (p := p) (q := q) (w1 := [112, 105, 108, 101]) (u := WL.getD 13 []) (by decide +kernel)
  rw [dv_bn2 e17]
  rcases h17 with ⟨g17, h17⟩ | ⟨g17, h17⟩
  · rw [g17, if_neg (by decide)]
    exact ⟨_, rfl, Or.inl ⟨13, by decide, by unfold rd_wp; omega, h17⟩⟩
  rw [g17, if_pos rfl]
  obtain ⟨y18, e18, h18⟩ := q_is (V := V) (r := r) (p := p) (q := q) (w1 := [120]) (u := WL.getD 10 []) (by decide +kernel)
  rw [dv_bn2 e18]
  rcases h18 with ⟨g18, h18⟩ | ⟨g18, h18⟩
  · rw [g18, if_neg (by decide)]
    exact ⟨_, rfl, Or.inl ⟨10, by decide, by unfold rd_wp; omega, h18⟩⟩
  rw [g18, if_pos rfl]
  obtain ⟨y19, e19, h19⟩ := q_is (V := V) (r := r) (p := p) (q := q) (w1 := [121]) (u := WL.getD 11 []) (by decide +kernel)
  rw [dv_bn2 e19]
  rcases h19 with ⟨g19, h19⟩ | ⟨g19, h19⟩
  · rw [g19, if_neg (by decide)]
    exact ⟨_, rfl, Or.inl ⟨11, by decide, by unfold rd_wp; omega, h19⟩⟩
  rw [g19, if_pos rfl]
  obtain ⟨y20, e20, h20⟩ := q_is (V := V) (r := r) (p := p) (q := q) (w1 := [121, 101, 97, 114]) (u := WL.getD 14 []) (by decide +kernel)
  rw [dv_bn2 e20]
  rcases h20 with ⟨g20, h20⟩ | ⟨g20, h20⟩
  · rw [g20, if_neg (by decide)]
    exact ⟨_, rfl, Or.inl ⟨14, by decide, by unfold rd_wp; omega, h20⟩⟩
  rw [g20, if_pos rfl]
  obtain ⟨y21, e21, h21⟩ := q_is (V := V) (r := r) (p := p) (q := q) (w1 := [109, 111, 111, 100]) (u := WL.getD 12 []) (by decide +kernel)
  rw [dv_bn2 e21]
  rcases h21 with ⟨g21, h21⟩ | ⟨g21, h21⟩
  · rw [g21, if_neg (by decide)]
    exact ⟨_, rfl, Or.inl ⟨12, by decide, by unfold rd_wp; omega, h21⟩⟩
  rw [g21, if_pos rfl]
  obtain ⟨y22, e22, h22⟩ := q_is (V := V) (r := r) (p := p) (q := q) (w1 := [100, 111, 110, 101]) (u := WL.getD 15 []) (by decide +kernel)
  rw [dv_bn2 e22]
  rcases h22 with ⟨g22, h22⟩ | ⟨g22, h22⟩
  · rw [g22, if_neg (by decide)]
    exact ⟨_, rfl, Or.inl ⟨15, by decide, by unfold rd_wp; omega, h22⟩⟩
  rw [g22, if_pos rfl]
  obtain ⟨y23, e23, h23⟩ := q_is (V := V) (r := r) (p := p) (q := q) (w1 := [108, 97, 116, 101, 115, 116]) (u := WL.getD 16 []) (by decide +kernel)
  rw [dv_bn2 e23]
  rcases h23 with ⟨g23, h23⟩ | ⟨g23, h23⟩
  · rw [g23, if_neg (by decide)]
    exact ⟨_, rfl, Or.inl ⟨16, by decide, by unfold rd_wp; omega, h23⟩⟩
  rw [g23, if_pos rfl]
  obtain ⟨y24, e24, h24⟩ := q_is (V := V) (r := r) (p := p) (q := q) (w1 := [98, 97, 114, 101]) (u := WL.getD 17 []) (by decide +kernel)
  rw [dv_bn2 e24]
  rcases h24 with ⟨g24, h24⟩ | ⟨g24, h24⟩
  · rw [g24, if_neg (by decide)]
    exact ⟨_, rfl, Or.inl ⟨17, by decide, by unfold rd_wp; omega, h24⟩⟩
  rw [g24, if_pos rfl]
  obtain ⟨y25, e25, h25⟩ := q_is (V := V) (r := r) (p := p) (q := q) (w1 := [112, 97, 105, 100]) (u := WL.getD 18 []) (by decide +kernel)
  rw [dv_bn2 e25]
  rcases h25 with ⟨g25, h25⟩ | ⟨g25, h25⟩
  · rw [g25, if_neg (by decide)]
    exact ⟨_, rfl, Or.inl ⟨18, by decide, by unfold rd_wp; omega, h25⟩⟩
  rw [g25, if_pos rfl]
  obtain ⟨y26, e26, h26⟩ := q_is (V := V) (r := r) (p := p) (q := q) (w1 := [108, 97, 105, 100]) (u := WL.getD 19 []) (by decide +kernel)
  rw [dv_bn2 e26]
  rcases h26 with ⟨g26, h26⟩ | ⟨g26, h26⟩
  · rw [g26, if_neg (by decide)]
    exact ⟨_, rfl, Or.inl ⟨19, by decide, by unfold rd_wp; omega, h26⟩⟩
  rw [g26, if_pos rfl]
  refine ⟨_, rfl, Or.inr ⟨rfl, fun k hk => ?_⟩⟩
  have : k = 0 ∨ k = 1 ∨ k = 2 ∨ k = 3 ∨ k = 4 ∨ k = 5 ∨ k = 6 ∨ k = 7 ∨ k = 8 ∨ k = 9 ∨ k = 10 ∨ k = 11 ∨ k = 12 ∨ k = 13 ∨ k = 14 ∨ k = 15 ∨ k = 16 ∨ k = 17 ∨ k = 18 ∨ k = 19 ∨ k = 20 ∨ k = 21 ∨ k = 22 ∨ k = 23 ∨ k = 24 ∨ k = 25 ∨ k = 26 := by omega
  rcases this with rfl | rfl | rfl | rfl | rfl | rfl | rfl | rfl | rfl | rfl | rfl | rfl | rfl | rfl | rfl | rfl | rfl | rfl | rfl | rfl | rfl | rfl | rfl | rfl | rfl | rfl | rfl
  · exact h0
  · exact h1
  · exact h2
  · exact h7
  · exact h11
  · exact h12
  · exact h13
  · exact h14
  · exact h15
  · exact h16
  · exact h18
  · exact h19
  · exact h21
  · exact h17
  · exact h20
  · exact h22
  · exact h23
  · exact h24
  · exact h25
  · exact h26
  · exact h3
  · exact h9
  · exact h10
  · exact h4
  · exact h5
  · exact h6
  · exact h8
def WS : List Int := [0, 6, 12, 17, 20, 23, 27, 31, 38, 43, 48, 50, 52, 57, 62, 67, 72, 79, 84, 89, 94, 98, 101, 104, 109, 116, 121, 127]
theorem WT_ok : ∀ c : Fin 27, (0 ≤ WS.getD c.1 0 ∧ WS.getD c.1 0 < 127) ∧ WS.getD c.1 0 + ((WL.getD c.1 []).length : Int) < 127 ∧ WT.getD (WS.getD c.1 0 + ((WL.getD c.1 []).length : Int)).toNat 0 = 32 ∧ WS.getD (c.1 + 1) 0 = WS.getD c.1 0 + ((WL.getD c.1 []).length + 1) ∧ ∀ i : Fin (WL.getD c.1 []).length, WT.getD (WS.getD c.1 0 + (i.1 : Int)).toNat 0 = (WL.getD c.1 []).getD i.1 0 ∧ (WL.getD c.1 []).getD i.1 0 ≠ 32 := by decide +kernel
/-- one word of the table -/
theorem q_word1 {n : Nat} {u : List Int} (hn : u.length = n) (hu : ∀ i : Nat, i < n → W a 7 (k + i) = u.getD i 0 ∧ u.getD i 0 ≠ 32) (he : W a 7 (k + n) = 32) (hk : 0 ≤ k ∧ k < 127) (hw : 1 ≤ w ∧ w ≤ 27) : (eqw (W a 11) p q u ∧ f_X12_wordOf_5b (W, a, p, q, w, k) = Sum.inr (w, ())) ∨ (¬ eqw (W a 11) p q u ∧ f_X12_wordOf_5b (W, a, p, q, w, k) = Sum.inl (W, a, p, q, w + 1, k + ((n : Int) + 1))) := by
  have hA : dv_add w 1 = w + 1 := dv_add_ok (by omega) (by omega) (by omega) (by omega) (by decide) (by decide)
  have h18 : ∀ ρ : Sum (dV × Int × Int × Int × Int × Int) dP, f_X12_wordOf_18c W a p q w k (n : Int) = Sum.inr ρ → dv_lp f_X12_wordOf_18b (W, a, p, q, w, k, 0) = ρ := by
    intro ρ hρ
    refine dv_for2 (s := fun i => (W, a, p, q, w, k, (i : Int))) (n := n) rfl (fun i hi => ?_) ?_
    · rw [f_X12_wordOf_18e]
      unfold f_X12_wordOf_18c
      rw [bq, bq, (hu i hi).1, if_neg (hu i hi).2, bq]
      rfl
    · rw [f_X12_wordOf_18e]; exact hρ
  rw [f_X12_wordOf_5e]
  unfold f_X12_wordOf_5c
  rw [bq, if_neg (by omega)]
  by_cases e : (n : Int) = q - p
  · have L : (eqw (W a 11) p q u ∧ dv_lp f_X12_wordOf_57x2b (W, a, p, q, w, k, (n : Int), 1, 0) = Sum.inr (Sum.inr (w, ()))) ∨ (¬ eqw (W a 11) p q u ∧ dv_lp f_X12_wordOf_57x2b (W, a, p, q, w, k, (n : Int), 1, 0) = Sum.inr (Sum.inl (W, a, p, q, w + 1, k + ((n : Int) + 1)))) := by
      refine dv_inv (P := fun s => ∃ m j : Int, s = (W, a, p, q, w, k, (n : Int), m, j) ∧ 0 ≤ j ∧ j ≤ n ∧ (m = 1 ∧ (∀ i : Nat, (i : Int) < j → W a 11 (p + i) = u.getD i 0) ∨ m = 0 ∧ ¬ eqw (W a 11) p q u)) (Q := fun z => (eqw (W a 11) p q u ∧ z = Sum.inr (Sum.inr (w, ()))) ∨ (¬ eqw (W a 11) p q u ∧ z = Sum.inr (Sum.inl (W, a, p, q, w + 1, k + ((n : Int) + 1))))) (m := fun s => ((n : Int) - s.2.2.2.2.2.2.2.2).toNat) ?_ _ ⟨1, 0, rfl, by omega, by omega, Or.inl ⟨rfl, fun i hi => absurd hi (by omega)⟩⟩
      rintro s ⟨m, j, rfl, j0, j1, hj⟩
      rw [f_X12_wordOf_57x2e]
      unfold f_X12_wordOf_57x2c f_X12_wordOf_104x2
      rcases hj with ⟨rfl, hj⟩ | ⟨rfl, hj⟩
      · by_cases e1 : (n : Int) ≤ j
        · rw [if_pos e1, if_neg (by decide)]
          exact Or.inr ⟨_, rfl, Or.inl ⟨⟨by omega, fun i hi => hj i (by omega)⟩, rfl⟩⟩
        · rw [if_neg e1, if_neg (by decide), bq, bq, bq, bq]
          have hj2 := (hu j.toNat (by omega)).1
          rw [show ((j.toNat : Nat) : Int) = j by omega] at hj2
          by_cases e2 : W a 7 (k + j) ≠ W a 11 (p + j)
          · rw [if_pos e2, bq]
            refine Or.inl ⟨_, rfl, ⟨0, j + 1, rfl, by omega, by omega, Or.inr ⟨rfl, fun h => e2 ?_⟩⟩, by dsimp only; omega⟩
            have h2 := h.2 j.toNat (by omega)
            rw [show ((j.toNat : Nat) : Int) = j by omega] at h2
            rw [hj2, h2]
          · rw [if_neg e2, bq]
            refine Or.inl ⟨_, rfl, ⟨1, j + 1, rfl, by omega, by omega, Or.inl ⟨rfl, fun i hi => ?_⟩⟩, by dsimp only; omega⟩
            by_cases e3 : (i : Int) = j
            · have e4 : W a 7 (k + j) = W a 11 (p + j) := Classical.not_not.mp e2
              rw [e3, ← e4, hj2]; congr 1; omega
            · exact hj i (by omega)
      · have hR : (Sum.inr (Sum.inr (Sum.inl (W, a, p, q, dv_add w 1, k + ((n : Int) + 1)))) : Sum (dV × Int × Int × Int × Int × Int × Int × Int × Int) (Sum (dV × Int × Int × Int × Int × Int × Int) (Sum (dV × Int × Int × Int × Int × Int) (dP)))) = Sum.inr (Sum.inr (Sum.inl (W, a, p, q, w + 1, k + ((n : Int) + 1)))) := by rw [hA]
        by_cases e1 : (n : Int) ≤ j
        · rw [if_pos e1, if_pos rfl, bq, bq, bq, hR]
          exact Or.inr ⟨_, rfl, Or.inr ⟨hj, rfl⟩⟩
        · rw [if_neg e1, if_pos rfl, if_pos rfl, bq, bq, bq, hR]
          exact Or.inr ⟨_, rfl, Or.inr ⟨hj, rfl⟩⟩
    rcases L with ⟨l1, l2⟩ | ⟨l1, l2⟩
    · refine Or.inl ⟨l1, h18 _ ?_⟩
      unfold f_X12_wordOf_18c
      rw [bq, bq, he, if_pos rfl, bq, if_neg (fun z => z e), l2]
    · refine Or.inr ⟨l1, h18 _ ?_⟩
      unfold f_X12_wordOf_18c
      rw [bq, bq, he, if_pos rfl, bq, if_neg (fun z => z e), l2]
  · refine Or.inr ⟨fun h => e (by have := h.1; omega), h18 _ ?_⟩
    have L : dv_lp f_X12_wordOf_57b (W, a, p, q, w, k, (n : Int), 0, 0) = Sum.inr (Sum.inl (W, a, p, q, w + 1, k + ((n : Int) + 1))) := by
      refine dv_lp_e ?_
      rw [f_X12_wordOf_57e]
      unfold f_X12_wordOf_57c f_X12_wordOf_104
      by_cases e1 : (n : Int) ≤ 0
      · rw [if_pos e1, if_pos rfl, bq, bq, bq, hA]
      · rw [if_neg e1, if_pos rfl, if_pos rfl, bq, bq, bq, hA]
    unfold f_X12_wordOf_18c
    rw [bq, bq, he, if_pos rfl, bq, if_pos e, L]
/-- the reference's word -/
theorem q_wordOf (h7 : ∀ z, 0 ≤ z → z < 127 → W a 7 z = WT.getD z.toNat 0) : ∃ c : Int, f_X12_wordOf W a p q = (c, ()) ∧ ((∃ k : Nat, k < 27 ∧ c = (k : Int) + 1 ∧ eqw (W a 11) p q (WL.getD k [])) ∨ c = 0 ∧ ∀ k : Nat, k < 27 → ¬ eqw (W a 11) p q (WL.getD k [])) := by
  unfold f_X12_wordOf
  refine dv_inv (P := fun s => ∃ k : Nat, k ≤ 27 ∧ s = (W, a, p, q, (k : Int) + 1, WS.getD k 0) ∧ ∀ d : Nat, d < k → ¬ eqw (W a 11) p q (WL.getD d [])) (Q := fun z => ∃ c : Int, z = (c, ()) ∧ ((∃ k : Nat, k < 27 ∧ c = (k : Int) + 1 ∧ eqw (W a 11) p q (WL.getD k [])) ∨ c = 0 ∧ ∀ k : Nat, k < 27 → ¬ eqw (W a 11) p q (WL.getD k []))) (m := fun s => (28 - s.2.2.2.2.1).toNat) ?_ _ ⟨0, by decide, rfl, fun d hd => absurd hd (by omega)⟩
  rintro s ⟨k, hk, rfl, hd⟩
  by_cases e : k = 27
  · subst e
    right
    refine ⟨(0, ()), ?_, 0, rfl, Or.inr ⟨rfl, hd⟩⟩
    rw [f_X12_wordOf_5e]
    unfold f_X12_wordOf_5c
    rw [bq, if_pos (by decide)]
  · obtain ⟨k0, k1, k2, k3, k4⟩ := WT_ok ⟨k, by omega⟩
    dsimp only at k0 k1 k2 k3 k4
    have hq := q_word1 (W := W) (a := a) (p := p) (q := q) (w := (k : Int) + 1) (k := WS.getD k 0) (u := WL.getD k []) (n := (WL.getD k []).length) rfl (fun i hi => by
      have := k4 ⟨i, hi⟩
      dsimp only at this
      rw [h7 _ (by omega) (by omega)]
      exact this) (by rw [h7 _ (by omega) (by omega)]; exact k2) k0 (by omega)
    rcases hq with ⟨q1, q2⟩ | ⟨q1, q2⟩
    · exact Or.inr ⟨_, q2, _, rfl, Or.inl ⟨k, by omega, rfl, q1⟩⟩
    · refine Or.inl ⟨_, q2, ⟨k + 1, by omega, ?_, fun d h => ?_⟩, by dsimp only; omega⟩
      · rw [k3]; congr 5
      · by_cases z : d = k
        · rw [z]; exact q1
        · exact hd d (by omega)
/-- both words -/
theorem q_words (h7 : ∀ z, 0 ≤ z → z < 127 → W a 7 z = WT.getD z.toNat 0) (hb : ∀ z, p ≤ z → z < q → V (V r 2 0) 0 z = W a 11 z) : ∃ t c : Int, f_X5_wordFrom V r p q = (t, ()) ∧ f_X12_wordOf W a p q = (c, ()) ∧ (rd_wp t c ∧ (t = 312 → q - p = 2) ∧ (t = 313 → q - p = 3) ∨ t = 300 ∧ c = 0) := by
  obtain ⟨t, e1, h1⟩ := q_wordFrom (V := V) (r := r) (p := p) (q := q)
  obtain ⟨c, e2, h2⟩ := q_wordOf (p := p) (q := q) h7
  refine ⟨t, c, e1, e2, ?_⟩
  rcases h1 with ⟨k, k27, kw, ke⟩ | ⟨rfl, hn⟩
  · have ke' := eqw_c (b' := W a 11) (fun z z0 z1 => (hb z z0 z1).symm) ke
    rcases h2 with ⟨d, d27, rfl, de⟩ | ⟨-, hn⟩
    · have kd : k = d := by
        have := WL_inj ⟨k, k27⟩ ⟨d, d27⟩ (eqw_u ke' de)
        exact congrArg Fin.val this
      subst kd
      refine Or.inl ⟨kw, fun z => ?_, fun z => ?_⟩
      · have : k = 4 := by subst z; unfold rd_wp at kw; omega
        subst this
        exact ke.1
      · have : k = 5 := by subst z; unfold rd_wp at kw; omega
        subst this
        exact ke.1
    · exact absurd ke' (hn k k27)
  · rcases h2 with ⟨d, d27, rfl, de⟩ | ⟨rfl, -⟩
    · exact absurd (eqw_c (b' := V (V r 2 0) 0) (fun z z0 z1 => hb z z0 z1) de) (hn d d27)
    · exact Or.inr ⟨rfl, rfl⟩
end QSB
end
section
section QSC
variable {V V' V1 V2 W W' W1 W2 : dV} {r x a i t c v p q k w f n L b T to : Int} {j : Nat}
theorem dv_mul_ok {a b : Int} (h0 : -2147483648 ≤ a * b) (h1 : a * b ≤ 2147483647) (a0 : -2147483648 ≤ a) (a1 : a ≤ 2147483647) (b0 : -2147483648 ≤ b) (b1 : b ≤ 2147483647) : dv_mul a b = a * b := by
  unfold dv_mul
  rw [Int32.toInt_mul, dv_ofInt a0 a1, dv_ofInt b0 b1]; exact dv_bm h0 h1
theorem dv_uu {a : Int} {m : Nat} {z u w : Int} : dv_u (dv_u V a m z u) a m z w = dv_u V a m z w := by
  funext b k y
  unfold dv_u
  by_cases e : b = a ∧ k = m ∧ y = z
  · rw [if_pos e, if_pos e]
  · rw [if_neg e, if_neg e, if_neg e]
theorem dv_us {a : Int} {m : Nat} {z u : Int} (h : V a m z = u) : dv_u V a m z u = V := by
  funext b k y
  unfold dv_u
  by_cases e : b = a ∧ k = m ∧ y = z
  · rw [if_pos e, e.1, e.2.1, e.2.2, h]
  · rw [if_neg e]
def isl (b : Int) : Prop := 97 ≤ b ∧ b ≤ 122
def isd (b : Int) : Prop := 48 ≤ b ∧ b ≤ 57
theorem c_isL : ∃ y, f_X5_isLetter V b = (y, ()) ∧ (y = 1 ∧ isl b ∨ y = 0 ∧ ¬ isl b) := by
  unfold f_X5_isLetter isl
  by_cases h : b < 97
  · rw [if_pos h]; exact ⟨_, rfl, Or.inr ⟨rfl, by omega⟩⟩
  · rw [if_neg h]
    by_cases h1 : 122 < b
    · rw [if_pos h1]; exact ⟨_, rfl, Or.inr ⟨rfl, by omega⟩⟩
    · rw [if_neg h1]; exact ⟨_, rfl, Or.inl ⟨rfl, by omega⟩⟩
theorem c_isD : ∃ y, f_X5_isDigit V b = (y, ()) ∧ (y = 1 ∧ isd b ∨ y = 0 ∧ ¬ isd b) := by
  unfold f_X5_isDigit isd
  by_cases h : b < 48
  · rw [if_pos h]; exact ⟨_, rfl, Or.inr ⟨rfl, by omega⟩⟩
  · rw [if_neg h]
    by_cases h1 : 57 < b
    · rw [if_pos h1]; exact ⟨_, rfl, Or.inr ⟨rfl, by omega⟩⟩
    · rw [if_neg h1]; exact ⟨_, rfl, Or.inl ⟨rfl, by omega⟩⟩
theorem m_isS : f_X12_isSmall V b = f_X5_isLetter V b := by unfold f_X12_isSmall f_X5_isLetter; rfl
theorem m_isD : f_X12_isDigit V b = f_X5_isDigit V b := by unfold f_X12_isDigit f_X5_isDigit; rfl
/-- a run from f ends at t -/
def rn (P : Int → Prop) (b : Int → Int) (L f t : Int) : Prop := f ≤ t ∧ t ≤ L ∧ (∀ z, f ≤ z → z < t → P (b z)) ∧ (t < L → ¬ P (b t))
theorem rn_u {P P' : Int → Prop} {b b' : Int → Int} {t' : Int} (h : rn P b L f t) (h' : rn P' b' L f t') (e : ∀ z, f ≤ z → z < L → (P (b z) ↔ P' (b' z))) : t = t' := by
  obtain ⟨a1, a2, a3, a4⟩ := h
  obtain ⟨b1, b2, b3, b4⟩ := h'
  by_cases h1 : t < t'
  · exact absurd ((e t a1 (by omega)).mpr (b3 t a1 h1)) (a4 (by omega))
  · by_cases h2 : t' < t
    · exact absurd ((e t' b1 (by omega)).mp (a3 t' b1 h2)) (b4 (by omega))
    · omega
theorem c_eol (hf : f ≤ V (V r 2 0) 1 0) : ∃ t, f_X5_endOfLetters V r f = (t, ()) ∧ rn isl (V (V r 2 0) 0) (V (V r 2 0) 1 0) f t := by
  unfold f_X5_endOfLetters
  refine dv_inv (P := fun s => ∃ j : Int, s = (V, r, j) ∧ f ≤ j ∧ j ≤ V (V r 2 0) 1 0 ∧ ∀ z, f ≤ z → z < j → isl (V (V r 2 0) 0 z)) (Q := fun s => ∃ t, s = (t, ()) ∧ rn isl (V (V r 2 0) 0) (V (V r 2 0) 1 0) f t) (m := fun s => (V (V r 2 0) 1 0 - s.2.2).toNat) ?_ _ ⟨f, rfl, by omega, hf, fun z z0 z1 => absurd z1 (by omega)⟩
  rintro s ⟨j, rfl, j0, j1, hj⟩
  rw [f_X5_endOfLetters_2e]
  unfold f_X5_endOfLetters_2c
  rw [bq, bq]
  by_cases e : V (V r 2 0) 1 0 ≤ j
  · rw [if_pos e]
    exact Or.inr ⟨_, rfl, j, rfl, j0, j1, hj, fun z => absurd z (by omega)⟩
  · rw [if_neg e, bq, bq]
    obtain ⟨y, e1, h1⟩ := c_isL (V := V) (b := V (V r 2 0) 0 j)
    rw [dv_bn2 e1]
    rcases h1 with ⟨rfl, h1⟩ | ⟨rfl, h1⟩
    · rw [if_neg (by decide), bq]
      refine Or.inl ⟨_, rfl, ⟨j + 1, rfl, by omega, by omega, fun z z0 z1 => ?_⟩, by dsimp only; omega⟩
      by_cases q : z = j
      · rw [q]; exact h1
      · exact hj z z0 (by omega)
    · rw [if_pos rfl]
      exact Or.inr ⟨_, rfl, j, rfl, j0, j1, hj, fun _ => h1⟩
theorem c_eod (hf : f ≤ V (V r 2 0) 1 0) : ∃ t, f_X5_endOfDigits V r f = (t, ()) ∧ rn isd (V (V r 2 0) 0) (V (V r 2 0) 1 0) f t := by
  unfold f_X5_endOfDigits
  refine dv_inv (P := fun s => ∃ j : Int, s = (V, r, j) ∧ f ≤ j ∧ j ≤ V (V r 2 0) 1 0 ∧ ∀ z, f ≤ z → z < j → isd (V (V r 2 0) 0 z)) (Q := fun s => ∃ t, s = (t, ()) ∧ rn isd (V (V r 2 0) 0) (V (V r 2 0) 1 0) f t) (m := fun s => (V (V r 2 0) 1 0 - s.2.2).toNat) ?_ _ ⟨f, rfl, by omega, hf, fun z z0 z1 => absurd z1 (by omega)⟩
  rintro s ⟨j, rfl, j0, j1, hj⟩
  rw [f_X5_endOfDigits_2e]
  unfold f_X5_endOfDigits_2c
  rw [bq, bq]
  by_cases e : V (V r 2 0) 1 0 ≤ j
  · rw [if_pos e]
    exact Or.inr ⟨_, rfl, j, rfl, j0, j1, hj, fun z => absurd z (by omega)⟩
  · rw [if_neg e, bq, bq]
    obtain ⟨y, e1, h1⟩ := c_isD (V := V) (b := V (V r 2 0) 0 j)
    rw [dv_bn2 e1]
    rcases h1 with ⟨rfl, h1⟩ | ⟨rfl, h1⟩
    · rw [if_neg (by decide), bq]
      refine Or.inl ⟨_, rfl, ⟨j + 1, rfl, by omega, by omega, fun z z0 z1 => ?_⟩, by dsimp only; omega⟩
      by_cases q : z = j
      · rw [q]; exact h1
      · exact hj z z0 (by omega)
    · rw [if_pos rfl]
      exact Or.inr ⟨_, rfl, j, rfl, j0, j1, hj, fun _ => h1⟩
/-- a number's value on the way, both ways -/
def vlC (b : Int → Int) (p : Int) : Nat → Int
  | 0 => 0
  | n + 1 => min (vlC b p n * 10 + b (p + (n : Int)) - 48) 1001
def vlR (b : Int → Int) (p : Int) : Nat → Int
  | 0 => 0
  | n + 1 => if vlR b p n ≤ 1000000 then 10 * vlR b p n + b (p + (n : Int)) - 48 else vlR b p n
theorem vl_rel {b b' : Int → Int} : ∀ n : Nat, (∀ z, p ≤ z → z < p + (n : Int) → isd (b z) ∧ b' z = b z) → (vlC b p n = vlR b' p n ∧ 0 ≤ vlR b' p n ∧ vlR b' p n ≤ 1000) ∨ (vlC b p n = 1001 ∧ 1000 < vlR b' p n ∧ vlR b' p n ≤ 10000009) := by
  intro n
  induction n with
  | zero => intro _; exact Or.inl ⟨rfl, Int.le_refl 0, (by decide : (0 : Int) ≤ 1000)⟩
  | succ n ih =>
    intro h
    have hb := h (p + (n : Int)) (by omega) (by omega)
    have hi := ih (fun z z0 z1 => h z z0 (by omega))
    unfold isd at hb
    have e1 : vlC b p (n + 1) = min (vlC b p n * 10 + b (p + (n : Int)) - 48) 1001 := rfl
    have e2 : vlR b' p (n + 1) = if vlR b' p n ≤ 1000000 then 10 * vlR b' p n + b' (p + (n : Int)) - 48 else vlR b' p n := rfl
    rw [e1, e2]
    rcases hi with ⟨i1, i2, i3⟩ | ⟨i1, i2, i3⟩
    · rw [if_pos (by omega)]; omega
    · by_cases q : vlR b' p n ≤ 1000000
      · rw [if_pos q]; omega
      · rw [if_neg q]; omega
theorem c_value (h0 : p ≤ q) (hd : ∀ z, p ≤ z → z < q → isd (V (V r 2 0) 0 z)) : f_X5_valueFrom V r p q = (vlC (V (V r 2 0) 0) p (q - p).toNat, ()) := by
  unfold f_X5_valueFrom
  refine dv_for2 (s := fun i => (V, r, q, vlC (V (V r 2 0) 0) p i, p + (i : Int))) (n := (q - p).toNat) (by show (V, r, q, (0 : Int), p) = (V, r, q, 0, p + ((0 : Nat) : Int)); rw [show p + ((0 : Nat) : Int) = p by omega]) (fun i hi => ?_) ?_
  · have hr := vl_rel (b := V (V r 2 0) 0) (b' := V (V r 2 0) 0) (p := p) i (fun z z0 z1 => ⟨hd z z0 (by omega), rfl⟩)
    have hb := hd (p + (i : Int)) (by omega) (by omega)
    unfold isd at hb
    rw [f_X5_valueFrom_5e]
    unfold f_X5_valueFrom_5c
    rw [if_neg (by omega), bq, dv_mul_ok (by omega) (by omega) (by omega) (by omega) (by omega) (by omega), bq, bq, bq, dv_add_ok (by omega) (by omega) (by omega) (by omega) (by omega) (by omega), bq, dv_sub_ok (by omega) (by omega) (by omega) (by omega) (by omega) (by omega), bq, bq]
    show Sum.inl (V, r, q, vlC (V (V r 2 0) 0) p (i + 1), p + (i : Int) + 1) = Sum.inl (V, r, q, vlC (V (V r 2 0) 0) p (i + 1), p + ((i + 1 : Nat) : Int))
    rw [show p + ((i + 1 : Nat) : Int) = p + (i : Int) + 1 by omega]
  · rw [f_X5_valueFrom_5e]
    unfold f_X5_valueFrom_5c
    rw [if_pos (by omega)]
/-- the reference's value, and it goes on -/
theorem m_169d (hb : isd b) (h0 : p ≤ q) (hd : ∀ z, p ≤ z → z < q → isd (W a 11 z)) (hT : W a 18 0 = T) (h16 : W a 16 T = 0) : dv_lp f_X12_splits_169b (W, b, a, L, q, p) = Sum.inl (dv_u (dv_u W a 16 T (vlR (W a 11) p (q - p).toNat)) a 18 0 (T + 1), a, L, q) := by
  refine dv_for2 (s := fun i => (dv_u W a 16 T (vlR (W a 11) p i), b, a, L, q, p + (i : Int))) (n := (q - p).toNat) ?_ (fun i hi => ?_) ?_
  · show (W, b, a, L, q, p) = (dv_u W a 16 T 0, b, a, L, q, p + ((0 : Nat) : Int))
    rw [dv_us h16, show p + ((0 : Nat) : Int) = p by omega]
  · have hr := vl_rel (b := W a 11) (b' := W a 11) (p := p) i (fun z z0 z1 => ⟨hd z z0 (by omega), rfl⟩)
    have hc := hd (p + (i : Int)) (by omega) (by omega)
    unfold isd at hc
    obtain ⟨y, e1, h1⟩ := c_isD (V := dv_u W a 16 T (vlR (W a 11) p i)) (b := b)
    have y1 : y = 1 := by rcases h1 with h1 | h1; exact h1.1; exact absurd hb h1.2
    rw [f_X12_splits_169e]
    unfold f_X12_splits_169c f_X12_splits_240
    have h18 : dv_u W a 16 T (vlR (W a 11) p i) a 18 0 = T := by rw [u_j (by decide), hT]
    have h11 : dv_u W a 16 T (vlR (W a 11) p i) a 11 (p + (i : Int)) = W a 11 (p + (i : Int)) := u_j (by decide)
    rw [if_neg (by omega), m_isD, dv_bn2 e1, if_neg (by rw [y1]; decide), bq, bq, bq, h18, u_e]
    have e2 : vlR (W a 11) p (i + 1) = if vlR (W a 11) p i ≤ 1000000 then 10 * vlR (W a 11) p i + W a 11 (p + (i : Int)) - 48 else vlR (W a 11) p i := rfl
    show _ = Sum.inl (dv_u W a 16 T (vlR (W a 11) p (i + 1)), b, a, L, q, p + ((i + 1 : Nat) : Int))
    rw [e2, show p + ((i + 1 : Nat) : Int) = p + (i : Int) + 1 by omega]
    by_cases q1 : vlR (W a 11) p i ≤ 1000000
    · rw [if_pos q1, if_pos q1, bq, bq, u_e, bq, dv_mul_ok (by omega) (by omega) (by omega) (by omega) (by omega) (by omega), bq, h11, bq, dv_add_ok (by omega) (by omega) (by omega) (by omega) (by omega) (by omega), bq, dv_sub_ok (by omega) (by omega) (by omega) (by omega) (by omega) (by omega), bq, bq, dv_uu]
    · rw [if_neg q1, if_neg q1, bq, bq, u_e, bq, bq, dv_uu]
  · rw [f_X12_splits_169e]
    unfold f_X12_splits_169c f_X12_splits_247
    rw [if_pos (by omega), bq, bq, bq, u_j (by decide), hT]
theorem m_169n (hb : ¬ isd b) (hq : p < q) (hT : W a 18 0 = T) : dv_lp f_X12_splits_169b (W, b, a, L, q, p) = Sum.inl (dv_u W a 18 0 (T + 1), a, L, q) := by
  obtain ⟨y, e1, h1⟩ := c_isD (V := W) (b := b)
  have y0 : y = 0 := by rcases h1 with h1 | h1; exact absurd h1.2 hb; exact h1.1
  refine dv_lp_e ?_
  rw [f_X12_splits_169e]
  unfold f_X12_splits_169c f_X12_splits_247
  rw [if_neg (by omega), m_isD, dv_bn2 e1, if_pos y0, bq, bq, bq, hT]
/-- the reference's run of letters, of digits -/
theorem m_43 (hf : f ≤ L) : ∃ t, dv_lp f_X12_splits_43b (W, b, a, L, k, f) = f_X12_splits_68 W b a L k t ∧ rn isl (W a 11) L f t := by
  refine dv_inv (P := fun s => ∃ j : Int, s = (W, b, a, L, k, j) ∧ f ≤ j ∧ j ≤ L ∧ ∀ z, f ≤ z → z < j → isl (W a 11 z)) (Q := fun s => ∃ t, s = f_X12_splits_68 W b a L k t ∧ rn isl (W a 11) L f t) (m := fun s => (L - s.2.2.2.2.2).toNat) ?_ _ ⟨f, rfl, by omega, hf, fun z z0 z1 => absurd z1 (by omega)⟩
  rintro s ⟨j, rfl, j0, j1, hj⟩
  rw [f_X12_splits_43e]
  unfold f_X12_splits_43c
  by_cases e : L ≤ j
  · rw [if_pos e]
    exact Or.inr ⟨_, rfl, j, rfl, j0, j1, hj, fun z => absurd z (by omega)⟩
  · rw [if_neg e, bq, m_isS]
    obtain ⟨y, e1, h1⟩ := c_isL (V := W) (b := W a 11 j)
    rw [dv_bn2 e1]
    rcases h1 with ⟨rfl, h1⟩ | ⟨rfl, h1⟩
    · rw [if_neg (by decide), bq]
      refine Or.inl ⟨_, rfl, ⟨j + 1, rfl, by omega, by omega, fun z z0 z1 => ?_⟩, by dsimp only; omega⟩
      by_cases q : z = j
      · rw [q]; exact h1
      · exact hj z z0 (by omega)
    · rw [if_pos rfl]
      exact Or.inr ⟨_, rfl, j, rfl, j0, j1, hj, fun _ => h1⟩
theorem m_75 (hf : f ≤ L) : ∃ t, dv_lp f_X12_splits_75b (W, b, a, L, k, f) = f_X12_splits_100 W b a L k t ∧ rn isd (W a 11) L f t := by
  refine dv_inv (P := fun s => ∃ j : Int, s = (W, b, a, L, k, j) ∧ f ≤ j ∧ j ≤ L ∧ ∀ z, f ≤ z → z < j → isd (W a 11 z)) (Q := fun s => ∃ t, s = f_X12_splits_100 W b a L k t ∧ rn isd (W a 11) L f t) (m := fun s => (L - s.2.2.2.2.2).toNat) ?_ _ ⟨f, rfl, by omega, hf, fun z z0 z1 => absurd z1 (by omega)⟩
  rintro s ⟨j, rfl, j0, j1, hj⟩
  rw [f_X12_splits_75e]
  unfold f_X12_splits_75c
  by_cases e : L ≤ j
  · rw [if_pos e]
    exact Or.inr ⟨_, rfl, j, rfl, j0, j1, hj, fun z => absurd z (by omega)⟩
  · rw [if_neg e, bq, m_isD]
    obtain ⟨y, e1, h1⟩ := c_isD (V := W) (b := W a 11 j)
    rw [dv_bn2 e1]
    rcases h1 with ⟨rfl, h1⟩ | ⟨rfl, h1⟩
    · rw [if_neg (by decide), bq]
      refine Or.inl ⟨_, rfl, ⟨j + 1, rfl, by omega, by omega, fun z z0 z1 => ?_⟩, by dsimp only; omega⟩
      by_cases q : z = j
      · rw [q]; exact h1
      · exact hj z z0 (by omega)
    · rw [if_pos rfl]
      exact Or.inr ⟨_, rfl, j, rfl, j0, j1, hj, fun _ => h1⟩
end QSC
section QSD
variable {V V' V1 V2 W W' W1 W2 : dV} {r x a i t c v p q k w f n L b T to N : Int} {j : Nat}
theorem c_step (htp : V r 2 0 ≠ r) (hL : V (V r 2 0) 1 0 = L) (hp : p < L) (hn : n < 400) (h32 : V (V r 2 0) 0 p ≠ 32) (hb : 0 ≤ V (V r 2 0) 0 p ∧ V (V r 2 0) 0 p ≤ 255) : ∃ t to : Int, f_X5_scan_6b (V, r, f, p, n) = Sum.inl (dv_u (dv_u V r 1 f p) r 0 f t, r, f + 1, to, n + 1) ∧ ((isl (V (V r 2 0) 0 p) ∧ rn isl (V (V r 2 0) 0) L (p + 1) to ∧ f_X5_wordFrom (dv_u V r 1 f p) r p to = (t, ())) ∨ (isd (V (V r 2 0) 0 p) ∧ rn isd (V (V r 2 0) 0) L (p + 1) to ∧ t = 400 + vlC (V (V r 2 0) 0) p (to - p).toNat) ∨ (¬ isl (V (V r 2 0) 0 p) ∧ ¬ isd (V (V r 2 0) 0 p) ∧ to = p + 1 ∧ t = V (V r 2 0) 0 p)) := by
  rw [f_X5_scan_6e]
  unfold f_X5_scan_6c f_X5_scan_130 f_X5_scan_133
  rw [if_neg (by omega), bq, bq, if_neg (by omega), bq, bq, bq, if_neg h32, bq]
  have v2 : dv_u V r 1 f p r 2 0 = V r 2 0 := u_j (by decide)
  have vt : ∀ m z, dv_u V r 1 f p (V r 2 0) m z = V (V r 2 0) m z := fun m z => u_b htp
  have vf : dv_u V r 1 f p (V r 2 0) 0 = V (V r 2 0) 0 := funext (vt 0)
  generalize dv_u V r 1 f p = V1 at v2 vt vf
  have hL1 : p + 1 ≤ V1 (V1 r 2 0) 1 0 := by rw [v2, vt, hL]; omega
  obtain ⟨y, e1, h1⟩ := c_isL (V := V1) (b := V (V r 2 0) 0 p)
  rw [dv_bn2 e1]
  rcases h1 with ⟨rfl, h1⟩ | ⟨rfl, h1⟩
  · obtain ⟨to, e2, h2⟩ := c_eol (r := r) (f := p + 1) hL1
    obtain ⟨t, e3, -⟩ := q_wordFrom (V := V1) (r := r) (p := p) (q := to)
    rw [if_neg (by decide), dv_bn2 e2, dv_bn2 e3, bq, bq, bq]
    rw [v2, vt, vf, hL] at h2
    exact ⟨t, to, rfl, Or.inl ⟨h1, h2, e3⟩⟩
  · rw [if_pos rfl]
    obtain ⟨y2, e2, h2⟩ := c_isD (V := V1) (b := V (V r 2 0) 0 p)
    rw [dv_bn2 e2]
    rcases h2 with ⟨rfl, h2⟩ | ⟨rfl, h2⟩
    · obtain ⟨to, e3, h3⟩ := c_eod (r := r) (f := p + 1) hL1
      have hd : ∀ z, p ≤ z → z < to → isd (V1 (V1 r 2 0) 0 z) := by
        intro z z0 z1
        rw [v2, vt]
        by_cases q : z = p
        · rw [q]; exact h2
        · have := h3.2.2.1 z (by omega) z1
          rw [v2, vt] at this
          exact this
      have e4 := c_value (V := V1) (r := r) (p := p) (q := to) (by have := h3.1; omega) hd
      have hr := vl_rel (b := V (V r 2 0) 0) (b' := V (V r 2 0) 0) (p := p) (to - p).toNat (fun z z0 z1 => ⟨by have := hd z z0 (by omega); rw [v2, vt] at this; exact this, rfl⟩)
      rw [v2, vf] at e4
      rw [v2, vt, vf, hL] at h3
      rw [if_neg (by decide), dv_bn2 e3, dv_bn2 e4, dv_add_ok (by omega) (by omega) (by omega) (by omega) (by omega) (by omega), bq, bq, bq, bq]
      exact ⟨_, to, rfl, Or.inr (Or.inl ⟨h2, h3, rfl⟩)⟩
    · rw [if_pos rfl, bq, bq, bq]
      exact ⟨_, _, rfl, Or.inr (Or.inr ⟨h1, h2, rfl, rfl⟩)⟩
def M4 (W : dV) (a T k c v : Int) : dV := dv_u (dv_u (dv_u (dv_u (dv_u W a 17 T k) a 16 T 0) a 15 T c) a 16 T v) a 18 0 (T + 1)
theorem m_100 (hT : W a 18 0 = T) (hq : k < q) : ∃ c v : Int, f_X12_splits_100 W b a L k q = Sum.inl (M4 W a T k c v, a, L, q) ∧ ((isl b ∧ v = 0 ∧ f_X12_wordOf (dv_u (dv_u W a 17 T k) a 16 T 0) a k q = (c, ())) ∨ (isd b ∧ ((∀ z, k ≤ z → z < q → isd (W a 11 z)) → c = 50 ∧ v = vlR (W a 11) k (q - k).toNat)) ∨ (¬ isl b ∧ ¬ isd b ∧ c = 100 + dv_and b 255 ∧ v = 0)) ∨ (isd b ∧ ¬ ∀ z, k ≤ z → z < q → isd (W a 11 z)) := by
  by_cases hz : isd b ∧ ¬ ∀ z, k ≤ z → z < q → isd (W a 11 z)
  · exact ⟨0, 0, Or.inr hz⟩
  have x18 : dv_u W a 17 T k a 18 0 = T := by rw [u_j (by decide), hT]
  have y18 : dv_u (dv_u W a 17 T k) a 16 T 0 a 18 0 = T := by rw [u_j (by decide), x18]
  -- behind the code
  have E : ∀ c, dv_u (dv_u (dv_u W a 17 T k) a 16 T 0) a 15 T c a 18 0 = T := fun c => by rw [u_j (by decide), y18]
  have E16 : ∀ c, dv_u (dv_u (dv_u W a 17 T k) a 16 T 0) a 15 T c a 16 T = 0 := fun c => by rw [u_j (by decide), u_e]
  have E11 : ∀ c, dv_u (dv_u (dv_u W a 17 T k) a 16 T 0) a 15 T c a 11 = W a 11 := fun c => funext fun z => by rw [u_j (by decide), u_j (by decide), u_j (by decide)]
  have M0 : ∀ c, dv_u (dv_u (dv_u (dv_u W a 17 T k) a 16 T 0) a 15 T c) a 18 0 (T + 1) = M4 W a T k c 0 := fun c => by unfold M4; rw [dv_us (E16 c)]
  unfold f_X12_splits_100 f_X12_splits_165
  rw [bq, bq, bq, bq, bq, hT, x18, y18, m_isS]
  obtain ⟨y, e1, h1⟩ := c_isL (V := dv_u (dv_u W a 17 T k) a 16 T 0) (b := b)
  rw [dv_bn2 e1]
  rcases h1 with ⟨rfl, h1⟩ | ⟨rfl, h1⟩
  · have hnd : ¬ isd b := by unfold isl at h1; unfold isd; omega
    rw [if_neg (by decide)]
    obtain ⟨c, hc⟩ : ∃ c, f_X12_wordOf (dv_u (dv_u W a 17 T k) a 16 T 0) a k q = (c, ()) := ⟨_, rfl⟩
    rw [dv_bn2 hc, bq, m_169n hnd hq (E c), M0]
    exact ⟨c, 0, Or.inl ⟨rfl, Or.inl ⟨h1, rfl, hc⟩⟩⟩
  · rw [if_pos rfl, m_isD]
    obtain ⟨y2, e2, h2⟩ := c_isD (V := dv_u (dv_u W a 17 T k) a 16 T 0) (b := b)
    rw [dv_bn2 e2]
    rcases h2 with ⟨rfl, h2⟩ | ⟨rfl, h2⟩
    · have hd : ∀ z, k ≤ z → z < q → isd (W a 11 z) := Classical.not_not.mp (fun z => hz ⟨h2, z⟩)
      rw [if_neg (by decide), bq, m_169d h2 (by omega) (fun z z0 z1 => by rw [E11]; exact hd z z0 z1) (E 50) (E16 50), E11]
      exact ⟨50, _, Or.inl ⟨rfl, Or.inr (Or.inl ⟨h2, fun _ => ⟨rfl, rfl⟩⟩)⟩⟩
    · rw [if_pos rfl, bq, bq, bq, m_169n h2 hq (E _), M0]
      exact ⟨_, 0, Or.inl ⟨rfl, Or.inr (Or.inr ⟨h1, h2, rfl, rfl⟩)⟩⟩
theorem m_step (hT : W a 18 0 = T) (hk : k < L) (h32 : W a 11 k ≠ 32) : ∃ c v to : Int, f_X12_splits_7b (W, a, L, k) = Sum.inl (M4 W a T k c v, a, L, to) ∧ ((isl (W a 11 k) ∧ rn isl (W a 11) L (k + 1) to ∧ v = 0 ∧ f_X12_wordOf (dv_u (dv_u W a 17 T k) a 16 T 0) a k to = (c, ())) ∨ (isd (W a 11 k) ∧ rn isd (W a 11) L (k + 1) to ∧ c = 50 ∧ v = vlR (W a 11) k (to - k).toNat) ∨ (¬ isl (W a 11 k) ∧ ¬ isd (W a 11 k) ∧ to = k + 1 ∧ c = 100 + dv_and (W a 11 k) 255 ∧ v = 0)) := by
  rw [f_X12_splits_7e]
  unfold f_X12_splits_7c
  rw [if_neg (by omega), bq, if_pos h32, bq, m_isS]
  obtain ⟨y, e1, h1⟩ := c_isL (V := W) (b := W a 11 k)
  obtain ⟨y2, e2, h2⟩ := c_isD (V := W) (b := W a 11 k)
  rw [dv_bn2 e1]
  rcases h1 with ⟨rfl, h1⟩ | ⟨rfl, h1⟩
  · have hnd : ¬ isd (W a 11 k) := by unfold isl at h1; unfold isd; omega
    have y0 : y2 = 0 := by rcases h2 with h2 | h2; exact absurd h2.2 hnd; exact h2.1
    obtain ⟨to, e3, h3⟩ := m_43 (W := W) (b := W a 11 k) (a := a) (k := k) (f := k + 1) (L := L) (by omega)
    have h30 := h3.1
    rw [if_neg (by decide), e3]
    unfold f_X12_splits_68
    rw [m_isD, dv_bn2 e2, if_pos y0]
    obtain ⟨c, v, ⟨e4, h4⟩ | h4⟩ := m_100 (b := W a 11 k) (L := L) (k := k) (q := to) hT (by omega)
    · rcases h4 with ⟨-, h4, h5⟩ | h4 | h4
      · exact ⟨c, v, to, e4, Or.inl ⟨h1, h3, h4, h5⟩⟩
      · exact absurd h4.1 hnd
      · exact absurd h1 h4.1
    · exact absurd h4.1 hnd
  · rw [if_pos rfl]
    unfold f_X12_splits_68
    rw [m_isD, dv_bn2 e2]
    rcases h2 with ⟨rfl, h2⟩ | ⟨rfl, h2⟩
    · obtain ⟨to, e3, h3⟩ := m_75 (W := W) (b := W a 11 k) (a := a) (k := k) (f := k + 1) (L := L) (by omega)
      have h30 := h3.1
      have hd : ∀ z, k ≤ z → z < to → isd (W a 11 z) := by
        intro z z0 z1
        by_cases q : z = k
        · rw [q]; exact h2
        · exact h3.2.2.1 z (by omega) z1
      rw [if_neg (by decide), e3]
      obtain ⟨c, v, ⟨e4, h4⟩ | h4⟩ := m_100 (b := W a 11 k) (L := L) (k := k) (q := to) hT (by omega)
      · rcases h4 with h4 | h4 | h4
        · exact absurd h4.1 h1
        · exact ⟨c, v, to, e4, Or.inr (Or.inl ⟨h2, h3, h4.2 hd⟩)⟩
        · exact absurd h2 h4.2.1
      · exact absurd hd h4.2
    · rw [if_pos rfl]
      obtain ⟨c, v, ⟨e4, h4⟩ | h4⟩ := m_100 (b := W a 11 k) (L := L) (k := k) (q := k + 1) hT (by omega)
      · rcases h4 with h4 | h4 | h4
        · exact absurd h4.1 h1
        · exact absurd h4.1 h2
        · exact ⟨c, v, k + 1, e4, Or.inr (Or.inr ⟨h1, h2, rfl, h4.2.2⟩)⟩
      · exact absurd h4.1 h2
theorem and255 : ∀ i : Fin 256, dv_and (if (i.1 : Int) < 128 then (i.1 : Int) else (i.1 : Int) - 256) 255 = (i.1 : Int) := by decide +kernel
/-- a byte in both -/
def byr (b b' : Int) : Prop := (0 ≤ b ∧ b ≤ 255) ∧ b' = if b < 128 then b else b - 256
theorem byr_l {b b' : Int} (h : byr b b') : isl b ↔ isl b' := by unfold byr at h; unfold isl; split at h <;> omega
theorem byr_d {b b' : Int} (h : byr b b') : isd b ↔ isd b' := by unfold byr at h; unfold isd; split at h <;> omega
theorem byr_32 {b b' : Int} (h : byr b b') : b = 32 ↔ b' = 32 := by unfold byr at h; split at h <;> omega
theorem byr_and {b b' : Int} (h : byr b b') : dv_and b' 255 = b := by
  have h1 := and255 ⟨b.toNat, by unfold byr at h; omega⟩
  have h2 : ((b.toNat : Nat) : Int) = b := by unfold byr at h; omega
  dsimp only at h1
  rw [h2] at h1
  rw [h.2]; exact h1
theorem byr_s {b b' : Int} (h : byr b b') (h1 : isl b ∨ isd b) : b' = b := by unfold byr at h; unfold isl isd at h1; split at h <;> omega
/-- one token in both -/
theorem b_step (htp : V r 2 0 ≠ r) (hL : V (V r 2 0) 1 0 = L) (hp0 : 0 ≤ p) (hp : p < L) (hn : n < 400) (h32 : V (V r 2 0) 0 p ≠ 32) (hB : ∀ z, 0 ≤ z → z < L → byr (V (V r 2 0) 0 z) (W a 11 z)) (h7 : ∀ z, 0 ≤ z → z < 127 → W a 7 z = WT.getD z.toNat 0) (hT : W a 18 0 = T) : ∃ t c v to : Int, f_X5_scan_6b (V, r, f, p, n) = Sum.inl (dv_u (dv_u V r 1 f p) r 0 f t, r, f + 1, to, n + 1) ∧ f_X12_splits_7b (W, a, L, p) = Sum.inl (M4 W a T p c v, a, L, to) ∧ rd_tk t c v ∧ t ≠ -1 ∧ p + rd_w t ≤ to ∧ to ≤ L := by
  have hb := hB p hp0 hp
  obtain ⟨t, to, e1, h1⟩ := c_step (f := f) htp hL hp hn h32 hb.1
  obtain ⟨c, v, to', e2, h2⟩ := m_step (L := L) (k := p) hT hp (fun q => h32 ((byr_32 hb).mpr q))
  have sg : ∀ t : Int, t ≠ 312 → t ≠ 313 → rd_w t = 1 := fun t h h' => by unfold rd_w; rw [if_neg h, if_neg h']
  rcases h1 with ⟨g1, g2, g3⟩ | ⟨g1, g2, g3⟩ | ⟨g1, g1', g2, g3⟩
  · rcases h2 with ⟨-, k2, rfl, k3⟩ | ⟨k1, -⟩ | ⟨k1, -⟩
    · have ht : to = to' := rn_u g2 k2 (fun z z0 z1 => byr_l (hB z (by omega) z1))
      subst ht
      obtain ⟨l1, l2, l3, -⟩ := g2
      have v2 : dv_u V r 1 f p r 2 0 = V r 2 0 := u_j (by decide)
      obtain ⟨t', c', f1, f2, f3⟩ := q_words (V := dv_u V r 1 f p) (r := r) (p := p) (q := to) (W := dv_u (dv_u W a 17 T p) a 16 T 0) (a := a) (fun z z0 z1 => by rw [u_j (by decide), u_j (by decide)]; exact h7 z z0 z1) (fun z z0 z1 => by
        rw [v2, u_b htp, u_j (by decide), u_j (by decide)]
        refine (byr_s (hB z (by omega) (by omega)) (Or.inl ?_)).symm
        by_cases q : z = p
        · rw [q]; exact g1
        · exact l3 z (by omega) z1)
      rw [g3] at f1
      rw [k3] at f2
      have et : t = t' := congrArg Prod.fst f1
      have ec : c = c' := congrArg Prod.fst f2
      subst et
      subst ec
      refine ⟨t, c, 0, to, e1, e2, ?_, ?_, ?_, l2⟩
      · rcases f3 with ⟨f3, -⟩ | f3
        · unfold rd_tk; exact Or.inr (Or.inr (Or.inr (Or.inl f3)))
        · unfold rd_tk; exact Or.inr (Or.inl f3)
      · rcases f3 with ⟨f3, -⟩ | f3
        · unfold rd_wp at f3; omega
        · omega
      · rcases f3 with ⟨-, f4, f5⟩ | f3
        · unfold rd_w
          by_cases q : t = 312
          · rw [if_pos q]; have := f4 q; omega
          · rw [if_neg q]
            by_cases q1 : t = 313
            · rw [if_pos q1]; have := f5 q1; omega
            · rw [if_neg q1]; omega
        · rw [sg t (by omega) (by omega)]; omega
    · exact absurd ((byr_d hb).mpr k1) (by unfold isl at g1; unfold isd; omega)
    · exact absurd ((byr_l hb).mp g1) k1
  · rcases h2 with ⟨k1, -⟩ | ⟨-, k2, rfl, k3⟩ | ⟨-, k1, -⟩
    · exact absurd ((byr_l hb).mpr k1) (by unfold isd at g1; unfold isl; omega)
    · have ht : to = to' := rn_u g2 k2 (fun z z0 z1 => byr_d (hB z (by omega) z1))
      subst ht
      obtain ⟨l1, l2, l3, -⟩ := g2
      have hr := vl_rel (b := V (V r 2 0) 0) (b' := W a 11) (p := p) (to - p).toNat (fun z z0 z1 => by
        have hz : isd (V (V r 2 0) 0 z) := by
          by_cases q : z = p
          · rw [q]; exact g1
          · exact l3 z (by omega) (by omega)
        exact ⟨hz, byr_s (hB z (by omega) (by omega)) (Or.inr hz)⟩)
      rw [← k3] at hr
      refine ⟨t, 50, v, to, e1, e2, ?_, by omega, by rw [sg t (by omega) (by omega)]; omega, l2⟩
      unfold rd_tk; exact Or.inr (Or.inr (Or.inr (Or.inr ⟨by omega, rfl, by omega⟩)))
    · exact absurd ((byr_d hb).mp g1) k1
  · rcases h2 with ⟨k1, -⟩ | ⟨k1, -⟩ | ⟨-, -, rfl, rfl, rfl⟩
    · exact absurd ((byr_l hb).mpr k1) g1
    · exact absurd ((byr_d hb).mpr k1) g1'
    · subst g2
      subst g3
      rw [byr_and hb] at e2
      exact ⟨_, _, _, _, e1, e2, by unfold rd_tk; exact Or.inr (Or.inr (Or.inl ⟨hb.1, rfl⟩)), by have := hb.1; omega, by rw [sg _ (by have := hb.1; omega) (by have := hb.1; omega)]; omega, by omega⟩
end QSD
section QSE
variable {V V' V1 V2 W W' W1 W2 : dV} {r x a i t c v p q k w f n L b T to N o : Int} {j : Nat} {tk pl cd vl : Int → Int}
/-- the tokens found so far, the next byte is p -/
def sc_I (V W : dV) (r a f p : Int) : Prop := ∀ i, 0 ≤ i → i < f → rd_tk (V r 0 i) (W a 15 i) (W a 16 i) ∧ (0 ≤ V r 1 i ∧ V r 1 i ≤ 400) ∧ V r 0 i ≠ -1 ∧ V r 1 i + rd_w (V r 0 i) ≤ (if i + 1 < f then V r 1 (i + 1) else p)
def sc_f (r : Int) (V V' : dV) : Prop := ∀ b m z, ¬ (b = r ∧ (m = 0 ∨ m = 1)) → V' b m z = V b m z
def sm_f (a : Int) (W W' : dV) : Prop := ∀ b m z, ¬ (b = a ∧ (m = 15 ∨ m = 16 ∨ m = 17 ∨ m = 18)) → W' b m z = W b m z
theorem M4_f : sm_f a W (M4 W a T k c v) := fun b m z h => by
  unfold M4
  rw [show dv_u (dv_u (dv_u (dv_u (dv_u W a 17 T k) a 16 T 0) a 15 T c) a 16 T v) a 18 0 (T + 1) b m z = dv_u (dv_u (dv_u (dv_u W a 17 T k) a 16 T 0) a 15 T c) a 16 T v b m z from by unfold dv_u; rw [if_neg (fun q => h ⟨q.1, by omega⟩)]]
  rw [show dv_u (dv_u (dv_u (dv_u W a 17 T k) a 16 T 0) a 15 T c) a 16 T v b m z = dv_u (dv_u (dv_u W a 17 T k) a 16 T 0) a 15 T c b m z from by unfold dv_u; rw [if_neg (fun q => h ⟨q.1, by omega⟩)]]
  rw [show dv_u (dv_u (dv_u W a 17 T k) a 16 T 0) a 15 T c b m z = dv_u (dv_u W a 17 T k) a 16 T 0 b m z from by unfold dv_u; rw [if_neg (fun q => h ⟨q.1, by omega⟩)]]
  rw [show dv_u (dv_u W a 17 T k) a 16 T 0 b m z = dv_u W a 17 T k b m z from by unfold dv_u; rw [if_neg (fun q => h ⟨q.1, by omega⟩)]]
  unfold dv_u
  rw [if_neg (fun q => h ⟨q.1, by omega⟩)]
theorem M4_18 : M4 W a T k c v a 18 0 = T + 1 := u_e
theorem M4_17 : M4 W a T k c v a 17 i = if i = T then k else W a 17 i := by
  unfold M4
  rw [u_j (by decide), u_j (by decide), u_j (by decide), u_j (by decide)]
  by_cases e : i = T
  · rw [if_pos e, e, u_e]
  · rw [if_neg e, u_i e]
theorem M4_16 : M4 W a T k c v a 16 i = if i = T then v else W a 16 i := by
  unfold M4
  rw [u_j (by decide)]
  by_cases e : i = T
  · rw [if_pos e, e, u_e]
  · rw [if_neg e, u_i e, u_j (by decide), u_i e, u_j (by decide)]
theorem M4_15 : M4 W a T k c v a 15 i = if i = T then c else W a 15 i := by
  unfold M4
  rw [u_j (by decide), u_j (by decide)]
  by_cases e : i = T
  · rw [if_pos e, e, u_e]
  · rw [if_neg e, u_i e, u_j (by decide), u_j (by decide)]
/-- the tape, the words, and the places, the same in both -/
def sc_B (V W : dV) (r a L : Int) : Prop := V r 2 0 ≠ r ∧ V (V r 2 0) 1 0 = L ∧ (0 ≤ L ∧ L ≤ 400) ∧ (∀ z, 0 ≤ z → z < L → byr (V (V r 2 0) 0 z) (W a 11 z)) ∧ (∀ z, 0 ≤ z → z < 127 → W a 7 z = WT.getD z.toNat 0)
theorem sc_B_f (h : sc_B V W r a L) (f : sc_f r V V') (g : sm_f a W W') : sc_B V' W' r a L := by
  obtain ⟨h1, h2, h3, h4, h5⟩ := h
  have e2 : V' r 2 0 = V r 2 0 := f r 2 0 (fun q => absurd q.2 (by decide))
  have et : ∀ m z, V' (V r 2 0) m z = V (V r 2 0) m z := fun m z => f _ m z (fun q => h1 q.1)
  exact ⟨by rw [e2]; exact h1, by rw [e2, et]; exact h2, h3, fun z z0 z1 => by rw [e2, et, g a 11 z (fun q => absurd q.2 (by decide))]; exact h4 z z0 z1, fun z z0 z1 => by rw [g a 7 z (fun q => absurd q.2 (by decide))]; exact h5 z z0 z1⟩
theorem u_if {a : Int} {y z : Int} : dv_u V a j i y a j z = if z = i then y else V a j z := by
  by_cases e : z = i
  · rw [if_pos e, e, u_e]
  · rw [if_neg e, u_i e]
theorem sc_f_t (h : sc_f r V V') (h1 : sc_f r V' V1) : sc_f r V V1 := fun b j z k => (h1 b j z k).trans (h b j z k)
theorem sm_f_t (h : sm_f a W W') (h1 : sm_f a W' W1) : sm_f a W W1 := fun b j z k => (h1 b j z k).trans (h b j z k)
theorem sc_f_u (h : j = 0 ∨ j = 1) {y : Int} : sc_f r V (dv_u V r j i y) := fun b m z q => by
  unfold dv_u; rw [if_neg (fun e => q ⟨e.1, by rw [e.2.1]; exact h⟩)]
theorem sm_f_u (h : j = 15 ∨ j = 16 ∨ j = 17 ∨ j = 18) {y : Int} : sm_f a W (dv_u W a j i y) := fun b m z q => by
  unfold dv_u; rw [if_neg (fun e => q ⟨e.1, by rw [e.2.1]; exact h⟩)]
theorem sc_end (hB : sc_B V W r a L) (hT : W a 18 0 = f) (f0 : 0 ≤ f) (fp : f ≤ L) (hpl : ∀ z, V r 1 z = W a 17 z) (hI : sc_I V W r a f L) : ∃ (V' W' : dV), f_X5_scan_6b (V, r, f, L, n) = Sum.inr (V', 0) ∧ f_X12_splits_7b (W, a, L, L) = Sum.inr (W', 0) ∧ sc_f r V V' ∧ sm_f a W W' ∧ W' a 18 0 = f ∧ rd_ts (V' r 0) (V' r 1) (W' a 15) (W' a 16) f ∧ ∀ z, V' r 1 z = W' a 17 z := by
  obtain ⟨h1, h2, h3, h4, h5⟩ := hB
  have eV : f_X5_scan_6b (V, r, f, L, n) = Sum.inr (dv_u (dv_u V r 0 f (-1)) r 1 f L, 0) := by
    have e : f_X5_scan_142 V r f = Sum.inr (dv_u (dv_u V r 0 f (-1)) r 1 f L, 0) := by
      unfold f_X5_scan_142
      have x2 : dv_u V r 0 f (-1) r 2 0 = V r 2 0 := u_j (by decide)
      rw [bq, bq, bq, x2, u_b h1, h2, bq]
    rw [f_X5_scan_6e]
    unfold f_X5_scan_6c
    by_cases q : 400 ≤ n
    · rw [if_pos q, e]
    · rw [if_neg q, bq, bq, h2, if_pos (Int.le_refl _), e]
  have eW : f_X12_splits_7b (W, a, L, L) = Sum.inr (dv_u (dv_u (dv_u W a 17 f L) a 15 f 0) a 16 f 0, 0) := by
    have x1 : dv_u W a 17 f L a 18 0 = f := by rw [u_j (by decide), hT]
    have x2 : dv_u (dv_u W a 17 f L) a 15 f 0 a 18 0 = f := by rw [u_j (by decide), x1]
    rw [f_X12_splits_7e]
    unfold f_X12_splits_7c
    rw [if_pos (Int.le_refl _), bq, hT, bq, bq, x1, bq, bq, x2, bq]
  have F : sc_f r V (dv_u (dv_u V r 0 f (-1)) r 1 f L) := sc_f_t (sc_f_u (Or.inl rfl)) (sc_f_u (Or.inr rfl))
  have G : sm_f a W (dv_u (dv_u (dv_u W a 17 f L) a 15 f 0) a 16 f 0) := sm_f_t (sm_f_t (sm_f_u (by decide)) (sm_f_u (by decide))) (sm_f_u (by decide))
  have v0 : ∀ z, dv_u (dv_u V r 0 f (-1)) r 1 f L r 0 z = if z = f then -1 else V r 0 z := fun z => by rw [u_j (by decide), u_if]
  have v1 : ∀ z, dv_u (dv_u V r 0 f (-1)) r 1 f L r 1 z = if z = f then L else V r 1 z := fun z => by rw [u_if, u_j (by decide)]
  have w5 : ∀ z, dv_u (dv_u (dv_u W a 17 f L) a 15 f 0) a 16 f 0 a 15 z = if z = f then 0 else W a 15 z := fun z => by rw [u_j (by decide), u_if, u_j (by decide)]
  have w6 : ∀ z, dv_u (dv_u (dv_u W a 17 f L) a 15 f 0) a 16 f 0 a 16 z = if z = f then 0 else W a 16 z := fun z => by rw [u_if, u_j (by decide), u_j (by decide)]
  have w7 : ∀ z, dv_u (dv_u (dv_u W a 17 f L) a 15 f 0) a 16 f 0 a 17 z = if z = f then L else W a 17 z := fun z => by rw [u_j (by decide), u_j (by decide), u_if]
  have w8 : dv_u (dv_u (dv_u W a 17 f L) a 15 f 0) a 16 f 0 a 18 0 = f := by rw [u_j (by decide), u_j (by decide), u_j (by decide), hT]
  generalize dv_u (dv_u V r 0 f (-1)) r 1 f L = V' at eV F v0 v1
  generalize dv_u (dv_u (dv_u W a 17 f L) a 15 f 0) a 16 f 0 = W' at eW G w5 w6 w7 w8
  refine ⟨_, _, eV, eW, F, G, w8, ⟨⟨f0, by omega⟩, by rw [v0, if_pos rfl], fun i i0 i1 => ?_⟩, fun z => by rw [v1, w7, hpl z]⟩
  rw [v0, v1, v1, w5, w6]
  by_cases e : i = f
  · rw [if_pos e, if_pos e, if_pos e, if_pos e]
    exact ⟨by unfold rd_tk; exact Or.inl ⟨rfl, rfl⟩, h3, fun q => absurd q (by omega)⟩
  · obtain ⟨k1, k2, k3, k4⟩ := hI i i0 (by omega)
    rw [if_neg e, if_neg e, if_neg e, if_neg e]
    refine ⟨k1, k2, fun _ => ⟨k3, ?_⟩⟩
    by_cases e1 : i + 1 = f
    · rw [if_pos e1]
      rw [if_neg (by omega)] at k4
      exact k4
    · rw [if_neg e1]
      rw [if_pos (by omega)] at k4
      exact k4
/-- both find the same tokens -/
theorem sc_L (m : Nat) : ∀ (V W : dV) (f p n : Int), L - p ≤ m → sc_B V W r a L → W a 18 0 = f → 0 ≤ f → f ≤ p → n ≤ p → p ≤ L → (∀ z, V r 1 z = W a 17 z) → sc_I V W r a f p → ∃ (V' W' : dV), dv_lp f_X5_scan_6b (V, r, f, p, n) = (V', 0) ∧ dv_lp f_X12_splits_7b (W, a, L, p) = (W', 0) ∧ sc_f r V V' ∧ sm_f a W W' ∧ rd_ts (V' r 0) (V' r 1) (W' a 15) (W' a 16) (W' a 18 0) ∧ ∀ z, V' r 1 z = W' a 17 z := by
  induction m with
  | zero =>
    intro V W f p n hm hB hT f0 fp np pL hpl hI
    have e : p = L := by omega
    subst e
    obtain ⟨V', W', e1, e2, e3, e4, e5, e6, e7⟩ := sc_end (n := n) hB hT f0 fp hpl hI
    exact ⟨V', W', dv_lp_e e1, dv_lp_e e2, e3, e4, by rw [e5]; exact e6, e7⟩
  | succ m ih =>
    intro V W f p n hm hB hT f0 fp np pL hpl hI
    by_cases e : p = L
    · subst e
      obtain ⟨V', W', e1, e2, e3, e4, e5, e6, e7⟩ := sc_end (n := n) hB hT f0 fp hpl hI
      exact ⟨V', W', dv_lp_e e1, dv_lp_e e2, e3, e4, by rw [e5]; exact e6, e7⟩
    · obtain ⟨h1, h2, h3, h4, h5⟩ := id hB
      by_cases h32 : V (V r 2 0) 0 p = 32
      · have e1 : f_X5_scan_6b (V, r, f, p, n) = Sum.inl (V, r, f, p + 1, n + 1) := by
          rw [f_X5_scan_6e]
          unfold f_X5_scan_6c f_X5_scan_133
          rw [if_neg (by omega), bq, bq, h2, if_neg (by omega), bq, bq, bq, if_pos h32, bq]
        have e2 : f_X12_splits_7b (W, a, L, p) = Sum.inl (W, a, L, p + 1) := by
          rw [f_X12_splits_7e]
          unfold f_X12_splits_7c
          rw [if_neg (by omega), bq, if_neg (fun q => q ((byr_32 (h4 p (by omega) (by omega))).mp h32)), bq]
        obtain ⟨V', W', g1, g2, g⟩ := ih V W f (p + 1) (n + 1) (by omega) hB hT f0 (by omega) (by omega) (by omega) hpl (fun i i0 i1 => by
          obtain ⟨k1, k2, k3, k4⟩ := hI i i0 i1
          refine ⟨k1, k2, k3, ?_⟩
          by_cases q : i + 1 < f
          · rw [if_pos q] at k4 ⊢; exact k4
          · rw [if_neg q] at k4 ⊢; omega)
        exact ⟨V', W', by rw [dv_lp_s e1, g1], by rw [dv_lp_s e2, g2], g⟩
      · obtain ⟨t, c, v, to, e1, e2, e3, e4, e5, e6⟩ := b_step (f := f) (n := n) h1 h2 (by omega) (by omega) (by omega) h32 h4 h5 hT
        have hw := @rd_w1 t
        have F : sc_f r V (dv_u (dv_u V r 1 f p) r 0 f t) := sc_f_t (sc_f_u (Or.inr rfl)) (sc_f_u (Or.inl rfl))
        have v0 : ∀ z, dv_u (dv_u V r 1 f p) r 0 f t r 0 z = if z = f then t else V r 0 z := fun z => by
          by_cases q : z = f
          · rw [if_pos q, q, u_e]
          · rw [if_neg q, u_i q, u_j (by decide)]
        have v1 : ∀ z, dv_u (dv_u V r 1 f p) r 0 f t r 1 z = if z = f then p else V r 1 z := fun z => by
          rw [u_j (by decide)]
          by_cases q : z = f
          · rw [if_pos q, q, u_e]
          · rw [if_neg q, u_i q]
        generalize dv_u (dv_u V r 1 f p) r 0 f t = V1 at e1 F v0 v1
        have G := M4_f (W := W) (a := a) (T := f) (k := p) (c := c) (v := v)
        obtain ⟨V', W', g1, g2, g3, g4, g5⟩ := ih V1 (M4 W a f p c v) (f + 1) to (n + 1) (by omega) (sc_B_f hB F G) M4_18 (by omega) (by omega) (by omega) e6 (fun z => by
          rw [v1, M4_17]
          by_cases q : z = f
          · rw [if_pos q, if_pos q]
          · rw [if_neg q, if_neg q]; exact hpl z) (fun i i0 i1 => by
          rw [v0, v1, v1, M4_15, M4_16]
          by_cases q : i = f
          · rw [if_pos q, if_pos q, if_pos q, if_pos q, if_neg (show ¬ i + 1 < f + 1 by omega)]
            exact ⟨e3, by omega, e4, e5⟩
          · obtain ⟨k1, k2, k3, k4⟩ := hI i i0 (by omega)
            rw [if_neg q, if_neg q, if_neg q, if_neg q, if_pos (show i + 1 < f + 1 by omega)]
            refine ⟨k1, k2, k3, ?_⟩
            by_cases q1 : i + 1 = f
            · rw [if_pos q1]; rw [if_neg (by omega)] at k4; exact k4
            · rw [if_neg q1]; rw [if_pos (by omega)] at k4; exact k4)
        exact ⟨V', W', by rw [dv_lp_s e1, g1], by rw [dv_lp_s e2, g2], sc_f_t F g3, sm_f_t G g4, g5⟩
theorem sc_both (hB : sc_B V W r a L) (hpl : ∀ z, V r 1 z = W a 17 z) : ∃ (V' W' : dV), f_X5_scan V r = (V', 0) ∧ f_X12_splits W a L = (W', 0) ∧ sc_f r V V' ∧ sm_f a W W' ∧ rd_ts (V' r 0) (V' r 1) (W' a 15) (W' a 16) (W' a 18 0) ∧ ∀ z, V' r 1 z = W' a 17 z := by
  have G : sm_f a W (dv_u W a 18 0 0) := sm_f_u (by decide)
  obtain ⟨V', W', g1, g2, g3, g4, g5, g6⟩ := sc_L (r := r) (a := a) (L := L) L.toNat V (dv_u W a 18 0 0) 0 0 0 (by omega) (sc_B_f hB (fun _ _ _ _ => rfl) G) u_e (by decide) (by decide) (by decide) hB.2.2.1.1 (fun z => by rw [u_j (by decide)]; exact hpl z) (fun i i0 i1 => absurd i1 (by omega))
  refine ⟨V', W', ?_, ?_, g3, sm_f_t G g4, g5, g6⟩
  · unfold f_X5_scan; exact g1
  · unfold f_X12_splits; rw [bq]; exact g2
end QSE
section QSF
variable {V V' V1 V2 W W' W1 W2 : dV} {r x a i t c v p q k w f n L b T to N o tp : Int} {j : Nat} {tk pl cd vl : Int → Int}
/-- what reading leaves as it was -/
def rw_f (r x : Int) (V V' : dV) : Prop := ∀ b m z, ¬ (b = r ∧ m ≤ 8) → ¬ (b = x ∧ m ≤ 3) → V' b m z = V b m z
def rm_f (a : Int) (W W' : dV) : Prop := ∀ b m z, ¬ (b = a ∧ ((8 ≤ m ∧ m ≤ 10) ∨ (13 ≤ m ∧ m ≤ 21))) → W' b m z = W b m z
theorem rw_f_t (h : rw_f r x V V') (h1 : rw_f r x V' V1) : rw_f r x V V1 := fun b j z k k1 => (h1 b j z k k1).trans (h b j z k k1)
theorem rm_f_t (h : rm_f a W W') (h1 : rm_f a W' W1) : rm_f a W W1 := fun b j z k => (h1 b j z k).trans (h b j z k)
theorem rw_f_u (h : j ≤ 8) {y : Int} : rw_f r x V (dv_u V r j i y) := fun b m z q _ => by
  unfold dv_u; rw [if_neg (fun e => q ⟨e.1, by rw [e.2.1]; exact h⟩)]
theorem rw_f_x (h : j ≤ 3) {y : Int} : rw_f r x V (dv_u V x j i y) := fun b m z _ q => by
  unfold dv_u; rw [if_neg (fun e => q ⟨e.1, by rw [e.2.1]; exact h⟩)]
theorem rm_f_u (h : (8 ≤ j ∧ j ≤ 10) ∨ (13 ≤ j ∧ j ≤ 21)) {y : Int} : rm_f a W (dv_u W a j i y) := fun b m z q => by
  unfold dv_u; rw [if_neg (fun e => q ⟨e.1, by rw [e.2.1]; exact h⟩)]
theorem c_readS : ∃ V1 : dV, (∀ y : dR, dv_b2 (f_X5_scan V1 r) (fun V43 _ => dv_lp (f_X5_read_49b) (V43, r, 0)) = y → f_X5_read V r tp x o = y) ∧ (x ≠ r → rw_f r x V V1 ∧ V1 r 2 0 = tp ∧ V1 r 3 0 = x ∧ V1 r 4 0 = o ∧ V1 r 5 0 = 0 ∧ V1 r 6 0 = 0 ∧ V1 r 7 0 = 0 ∧ V1 r 8 0 = -1 ∧ V1 x 2 0 = 0 ∧ V1 x 3 0 = 0 ∧ ∀ z, V1 r 1 z = V r 1 z) := by
  refine ⟨dv_u (dv_u (dv_u (dv_u (dv_u (dv_u (dv_u (dv_u (dv_u V r 2 0 tp) r 3 0 x) r 4 0 o) r 5 0 0) r 6 0 0) r 7 0 0) r 8 0 (-1)) x 2 0 0) x 3 0 0, fun y hy => ?_, fun hx => ?_⟩
  · have x3 : dv_u (dv_u (dv_u (dv_u (dv_u (dv_u (dv_u V r 2 0 tp) r 3 0 x) r 4 0 o) r 5 0 0) r 6 0 0) r 7 0 0) r 8 0 (-1) r 3 0 = x := by
      rw [u_j (by decide), u_j (by decide), u_j (by decide), u_j (by decide), u_j (by decide), u_e]
    unfold f_X5_read f_X10_clear
    rw [bq, bq, bq, bq, bq, bq, bq, bq, x3, bq, bq, dv_bn2 rfl]
    exact hy
  · refine ⟨rw_f_t (rw_f_t (rw_f_t (rw_f_t (rw_f_t (rw_f_t (rw_f_t (rw_f_t (rw_f_u (by decide)) (rw_f_u (by decide))) (rw_f_u (by decide))) (rw_f_u (by decide))) (rw_f_u (by decide))) (rw_f_u (by decide))) (rw_f_u (by decide))) (rw_f_x (by decide))) (rw_f_x (by decide)), ?_, ?_, ?_, ?_, ?_, ?_, ?_, ?_, u_e, fun z => ?_⟩
    · rw [u_b (Ne.symm hx), u_b (Ne.symm hx), u_j (by decide), u_j (by decide), u_j (by decide), u_j (by decide), u_j (by decide), u_j (by decide), u_e]
    · rw [u_b (Ne.symm hx), u_b (Ne.symm hx), u_j (by decide), u_j (by decide), u_j (by decide), u_j (by decide), u_j (by decide), u_e]
    · rw [u_b (Ne.symm hx), u_b (Ne.symm hx), u_j (by decide), u_j (by decide), u_j (by decide), u_j (by decide), u_e]
    · rw [u_b (Ne.symm hx), u_b (Ne.symm hx), u_j (by decide), u_j (by decide), u_j (by decide), u_e]
    · rw [u_b (Ne.symm hx), u_b (Ne.symm hx), u_j (by decide), u_j (by decide), u_e]
    · rw [u_b (Ne.symm hx), u_b (Ne.symm hx), u_j (by decide), u_e]
    · rw [u_b (Ne.symm hx), u_b (Ne.symm hx), u_e]
    · rw [u_j (by decide), u_e]
    · rw [u_b (Ne.symm hx), u_b (Ne.symm hx), u_j (by decide), u_j (by decide), u_j (by decide), u_j (by decide), u_j (by decide), u_j (by decide), u_j (by decide)]
/-- a whole text is read the same way -/
theorem rd_whole (hx : x ≠ r) (ht : tp ≠ r) (hxt : tp ≠ x) (ho : o = 0 ∨ o = 1) (hL : V tp 1 0 = W a 13 0) (hL4 : 0 ≤ W a 13 0 ∧ W a 13 0 ≤ 400) (hB : ∀ z, 0 ≤ z → z < W a 13 0 → byr (V tp 0 z) (W a 11 z)) (h7 : ∀ z, 0 ≤ z → z < 127 → W a 7 z = WT.getD z.toNat 0) (hpl : ∀ z, V r 1 z = W a 17 z) : ∃ (V' : dV) (y : Int) (W' : dV) (y' : Int), f_X5_read V r tp x o = (V', y) ∧ f_X12_readsAs W a o = (W', y') ∧ rw_f r x V V' ∧ rm_f a W W' ∧ W' a 13 0 = 0 ∧ W' a 14 0 = y ∧ (∀ z, V' r 1 z = W' a 17 z) ∧ ((y = -1 ∧ y' = 1 ∧ 0 ≤ V' x 2 0 ∧ (0 ≤ W' a 18 0 ∧ W' a 18 0 ≤ 400) ∧ W' a 15 (W' a 18 0) = 0 ∧ tx_ok o (W' a 15) (W' a 16) (V' x 0) (V' x 1) (V' x 2 0) (W' a 18 0) (V' x 3 0)) ∨ (y ≠ -1 ∧ y' = 0)) := by
  obtain ⟨V1, eV, fV⟩ := c_readS (V := V) (r := r) (tp := tp) (x := x) (o := o)
  obtain ⟨g1, g2, g3, g4, g5, g6, g7, g8, g9, g10, g11⟩ := fV hx
  -- the reference's first steps
  obtain ⟨W1, eW, G1, k8, k11, k12, k13⟩ : ∃ W1 : dV, (∀ (U : dV) (y : Int), f_X12_reads W1 a = (U, y) → f_X12_readsAs W a o = (U, y)) ∧ rm_f a W W1 ∧ (∀ m z, m ≠ 8 → m ≠ 9 → m ≠ 10 → W1 a m z = W a m z) ∧ W1 a 10 0 = o ∧ (o = 0 → W1 a 8 0 = 8 ∧ W1 a 9 0 = 15) ∧ (o = 1 → W1 a 8 0 = 14 ∧ W1 a 9 0 = 20) := by
    rcases ho with rfl | rfl
    · refine ⟨dv_u (dv_u (dv_u W a 10 0 0) a 8 0 8) a 9 0 15, fun U y h => ?_, rm_f_t (rm_f_t (rm_f_u (by decide)) (rm_f_u (by decide))) (rm_f_u (by decide)), fun m z h8 h9 h10 => by rw [u_j h9, u_j h8, u_j h10], by rw [u_j (by decide), u_j (by decide), u_e], fun _ => ⟨by rw [u_j (by decide), u_e], u_e⟩, fun q => absurd q (by decide)⟩
      unfold f_X12_readsAs
      rw [bq, if_pos rfl, bq, if_pos rfl, bq, dv_bn2 h]
    · refine ⟨dv_u (dv_u (dv_u W a 10 0 1) a 8 0 14) a 9 0 20, fun U y h => ?_, rm_f_t (rm_f_t (rm_f_u (by decide)) (rm_f_u (by decide))) (rm_f_u (by decide)), fun m z h8 h9 h10 => by rw [u_j h9, u_j h8, u_j h10], by rw [u_j (by decide), u_j (by decide), u_e], fun q => absurd q (by decide), fun _ => ⟨by rw [u_j (by decide), u_e], u_e⟩⟩
      unfold f_X12_readsAs
      rw [bq, if_neg (by decide), bq, if_neg (by decide), bq, dv_bn2 h]
  have t1 : ∀ m z, V1 tp m z = V tp m z := fun m z => g1 tp m z (fun q => ht q.1) (fun q => hxt q.1)
  have hB1 : sc_B V1 W1 r a (W a 13 0) := ⟨by rw [g2]; exact ht, by rw [g2, t1]; exact hL, hL4, fun z z0 z1 => by rw [g2, t1, k8 11 z (by decide) (by decide) (by decide)]; exact hB z z0 z1, fun z z0 z1 => by rw [k8 7 z (by decide) (by decide) (by decide)]; exact h7 z z0 z1⟩
  obtain ⟨V2, W2, e1, e2, F2, G2, ts, pl2⟩ := sc_both hB1 (fun z => by rw [g11, k8 17 z (by decide) (by decide) (by decide)]; exact hpl z)
  have v2 : ∀ m z, m ≠ 0 → m ≠ 1 → V2 r m z = V1 r m z := fun m z h0 h1 => F2 r m z (fun q => by have := q.2; omega)
  have x2 : ∀ m z, V2 x m z = V1 x m z := fun m z => F2 x m z (fun q => hx q.1)
  have w2 : ∀ m z, m ≠ 15 → m ≠ 16 → m ≠ 17 → m ≠ 18 → W2 a m z = W1 a m z := fun m z h0 h1 h2 h3 => G2 a m z (fun q => by have := q.2; omega)
  -- the reference's start
  have G3 : rm_f a W2 (dv_u (dv_u (dv_u (dv_u W2 a 13 0 0) a 19 0 0) a 20 0 0) a 21 0 (-1)) := rm_f_t (rm_f_t (rm_f_t (rm_f_u (by decide)) (rm_f_u (by decide))) (rm_f_u (by decide))) (rm_f_u (by decide))
  have y21 : dv_u (dv_u (dv_u (dv_u W2 a 13 0 0) a 19 0 0) a 20 0 0) a 21 0 (-1) a 21 0 = -1 := u_e
  have y20 : dv_u (dv_u (dv_u (dv_u W2 a 13 0 0) a 19 0 0) a 20 0 0) a 21 0 (-1) a 20 0 = 0 := by rw [u_j (by decide), u_e]
  have y19 : dv_u (dv_u (dv_u (dv_u W2 a 13 0 0) a 19 0 0) a 20 0 0) a 21 0 (-1) a 19 0 = 0 := by rw [u_j (by decide), u_j (by decide), u_e]
  have y13 : dv_u (dv_u (dv_u (dv_u W2 a 13 0 0) a 19 0 0) a 20 0 0) a 21 0 (-1) a 13 0 = 0 := by rw [u_j (by decide), u_j (by decide), u_j (by decide), u_e]
  have ym : ∀ m z, m ≠ 13 → m ≠ 19 → m ≠ 20 → m ≠ 21 → dv_u (dv_u (dv_u (dv_u W2 a 13 0 0) a 19 0 0) a 20 0 0) a 21 0 (-1) a m z = W2 a m z := fun m z h1 h2 h3 h4 => by rw [u_j h4, u_j h3, u_j h2, u_j h1]
  have eR : ∀ (U W4 : dV) (y y4 : Int), f_X12_readOne (dv_u (dv_u (dv_u (dv_u W2 a 13 0 0) a 19 0 0) a 20 0 0) a 21 0 (-1)) a = (U, y) → dv_lp f_X12_reads_34b (U, a, 1) = (W4, y4) → f_X12_reads W1 a = (W4, y4) := by
    intro U W4 y y4 h1 h2
    unfold f_X12_reads
    rw [bq, k8 13 0 (by decide) (by decide) (by decide), dv_bn2 e2, bq, bq, bq, bq, dv_bn2 h1, h2]
  generalize dv_u (dv_u (dv_u (dv_u W2 a 13 0 0) a 19 0 0) a 20 0 0) a 21 0 (-1) = W3 at G3 y21 y20 y19 y13 ym eR
  have n18 : W3 a 18 0 = W2 a 18 0 := ym 18 0 (by decide) (by decide) (by decide) (by decide)
  have cx : rd_cx o (V2 r 0) (V2 r 1) V2 r x := ⟨fun _ => rfl, fun _ => rfl, by rw [v2 3 0 (by decide) (by decide), g3], by rw [v2 4 0 (by decide) (by decide), g4], hx, ho⟩
  have kx : re_cx o (W2 a 15) (W2 a 16) (V2 r 1) W3 a := by
    refine ⟨fun z => ym 15 z (by decide) (by decide) (by decide) (by decide), fun z => ym 16 z (by decide) (by decide) (by decide) (by decide), fun z => by rw [ym 17 z (by decide) (by decide) (by decide) (by decide), pl2], ?_, fun q => ?_, fun q => ?_⟩
    · rw [ym 10 0 (by decide) (by decide) (by decide) (by decide), w2 10 0 (by decide) (by decide) (by decide) (by decide), k11]
    · rw [ym 8 0 (by decide) (by decide) (by decide) (by decide), w2 8 0 (by decide) (by decide) (by decide) (by decide), ym 9 0 (by decide) (by decide) (by decide) (by decide), w2 9 0 (by decide) (by decide) (by decide) (by decide)]
      exact k12 q
    · rw [ym 8 0 (by decide) (by decide) (by decide) (by decide), w2 8 0 (by decide) (by decide) (by decide) (by decide), ym 9 0 (by decide) (by decide) (by decide) (by decide), w2 9 0 (by decide) (by decide) (by decide) (by decide)]
      exact k13 q
  have z5 : V2 r 5 0 = 0 := by rw [v2 5 0 (by decide) (by decide), g5]
  have z6 : V2 r 6 0 = 0 := by rw [v2 6 0 (by decide) (by decide), g6]
  have z7 : V2 r 7 0 = 0 := by rw [v2 7 0 (by decide) (by decide), g7]
  have z8 : V2 r 8 0 = -1 := by rw [v2 8 0 (by decide) (by decide), g8]
  have zs : V2 x 2 0 = 0 := by rw [x2, g9]
  have zc : V2 x 3 0 = ((0 : Nat) : Int) := by rw [x2, g10]; rfl
  have p0 := (ts.2.2 0 (by decide) ts.1.1).2.1
  have hi : rd_in o (V2 r 0) (V2 r 1) (W2 a 15) (W2 a 16) (W2 a 18 0) V2 W3 r x a := ⟨ts, cx, kx, z8, y21, by rw [y19, z5], by rw [z5]; exact ⟨Int.le_refl 0, ts.1.1⟩, by rw [y20, z6], by rw [z6]; decide, by rw [zs]; decide, by rw [zs, z5]; exact p0.1⟩
  obtain ⟨V', y, W4, W', y', f1, f2, f3, f4, f5, f6, f7, f8⟩ := rr_L ts 11 0 V2 W3 (by decide) hi z7 zc n18 (by rw [z5]; rfl)
  have F4 : rw_f r x V2 V' := fun b m z n1 n2 => f4 b m z (fun q => n1 ⟨q.1, by omega⟩) n2
  have G4 : rm_f a W3 W' := fun b m z n1 => f5 b m z (fun q => n1 ⟨q.1, by omega⟩)
  have FF : rw_f r x V1 V2 := fun b m z n1 _ => F2 b m z (fun q => n1 ⟨q.1, by omega⟩)
  have GG : rm_f a W1 W2 := fun b m z n1 => G2 b m z (fun q => n1 ⟨q.1, by omega⟩)
  have u15 : W' a 15 = W2 a 15 := funext fun z => by rw [f5 a 15 z (fun q => absurd q.2 (by decide)), ym 15 z (by decide) (by decide) (by decide) (by decide)]
  have u16 : W' a 16 = W2 a 16 := funext fun z => by rw [f5 a 16 z (fun q => absurd q.2 (by decide)), ym 16 z (by decide) (by decide) (by decide) (by decide)]
  have u18 : W' a 18 0 = W2 a 18 0 := by rw [f5 a 18 0 (fun q => absurd q.2 (by decide)), n18]
  refine ⟨V', y, W', y', eV _ ((dv_bn2 e1).trans f1), eW _ _ (eR _ _ _ _ f2 f3), rw_f_t (rw_f_t g1 FF) F4, rm_f_t (rm_f_t (rm_f_t G1 GG) G3) G4, by rw [f5 a 13 0 (fun q => absurd q.2 (by decide)), y13], f7, fun z => ?_, ?_⟩
  · rw [f4 r 1 z (fun q => absurd q.2 (by decide)) (fun q => hx q.1.symm), f5 a 17 z (fun q => absurd q.2 (by decide)), ym 17 z (by decide) (by decide) (by decide) (by decide), pl2]
  · rcases f8 with ⟨h1, h2, h3, h4⟩ | h
    · refine Or.inl ⟨h1, h2, h3, by rw [u18]; exact ts.1, ?_, ?_⟩
      · rw [u15, u18]
        have q := (ts.2.2 _ ts.1.1 (Int.le_refl _)).1
        rw [ts.2.1] at q
        unfold rd_tk rd_wp at q; omega
      rw [u15, u16, u18]
      exact h4
    · exact Or.inr h
end QSF
section QSG
variable {o N : Int} {cd vl cd' vl' : Int → Int}
/-- cd and vl are as cd' and vl' up to N -/
def cg (N : Int) (cd vl cd' vl' : Int → Int) : Prop := (∀ z, 0 ≤ z → z ≤ N → cd' z = cd z) ∧ ∀ z, 0 ≤ z → z < N → vl' z = vl z
def pr (N : Int) (E E' : Int → Int → dn → Prop) : Prop := ∀ i j A, 0 ≤ i → E i j A → i < j ∧ (j ≤ N → E' i j A)
theorem cg_leaf (g : cg N cd vl cd' vl') : pr N (D_leaf o cd vl) (D_leaf o cd' vl') := by
  intro i j A i0 h
  have hj : i < j := by unfold D_leaf at h; omega
  refine ⟨hj, fun jN => ?_⟩
  have e1 := g.1 i i0 (by omega)
  have e2 := g.2 i i0 (by omega)
  unfold D_leaf
  rw [e1, e2]
  rcases h with h | h | h | h
  · exact Or.inl h
  · exact Or.inr (Or.inl h)
  · have e3 := g.1 (i + 1) (by omega) (by omega)
    have e4 := g.2 (i + 1) (by omega) (by omega)
    rw [e3, e4]
    exact Or.inr (Or.inr (Or.inl h))
  · exact Or.inr (Or.inr (Or.inr h))
theorem cg_ch {isop : Int → Prop} {El El' : Int → Int → dn → Prop} {op : Int → dn → dn → dn} (g : cg N cd vl cd' vl') (hE : pr N El El') : ∀ (n : Nat) (i : Int) (A : dn) (j : Int) (R : dn), 0 ≤ i → d_ch isop cd El op n i A j R → i ≤ j ∧ (j ≤ N → d_ch isop cd' El' op n i A j R) := by
  intro n
  induction n with
  | zero =>
    rintro i A j R i0 ⟨h1, h2, h3⟩
    refine ⟨by omega, fun jN => ⟨h1, h2, ?_⟩⟩
    rw [g.1 i i0 (by omega)]; exact h3
  | succ n ih =>
    rintro i A j R i0 ⟨h1, m, B, h2, h3⟩
    obtain ⟨k1, k2⟩ := hE (i + 1) m B (by omega) h2
    obtain ⟨l1, l2⟩ := ih m _ j R (by omega) h3
    refine ⟨by omega, fun jN => ⟨by rw [g.1 i i0 (by omega)]; exact h1, m, B, k2 (by omega), ?_⟩⟩
    rw [g.1 i i0 (by omega)]
    exact l2 jN
theorem cg_termF {P P' : Int → Int → dn → Prop} (g : cg N cd vl cd' vl') (hP : pr N P P') : pr N (D_termF cd P) (D_termF cd' P') := by
  rintro i j A i0 ⟨m, B, n, h1, h2⟩
  obtain ⟨k1, k2⟩ := hP i m B i0 h1
  obtain ⟨l1, l2⟩ := cg_ch g hP n m B j A (by omega) h2
  exact ⟨by omega, fun jN => ⟨m, B, n, k2 (by omega), l2 jN⟩⟩
theorem cg_sumF {P P' : Int → Int → dn → Prop} (g : cg N cd vl cd' vl') (hP : pr N P P') : pr N (D_sumF cd P) (D_sumF cd' P') := by
  rintro i j A i0 ⟨m, B, n, h1, h2⟩
  obtain ⟨k1, k2⟩ := cg_termF g hP i m B i0 h1
  obtain ⟨l1, l2⟩ := cg_ch g (cg_termF g hP) n m B j A (by omega) h2
  exact ⟨by omega, fun jN => ⟨m, B, n, k2 (by omega), l2 jN⟩⟩
theorem cg_part (g : cg N cd vl cd' vl') (d : Nat) : pr N (D_part o cd vl d) (D_part o cd' vl' d) := by
  induction d with
  | zero => exact cg_leaf g
  | succ d ih =>
    rintro i j A i0 (h | ⟨h1, h2, h3⟩)
    · obtain ⟨k1, k2⟩ := cg_leaf g i j A i0 h
      exact ⟨k1, fun jN => Or.inl (k2 jN)⟩
    · obtain ⟨k1, k2⟩ := cg_sumF g ih (i + 1) (j - 1) A (by omega) h2
      exact ⟨by omega, fun jN => Or.inr ⟨by rw [g.1 i i0 (by omega)]; exact h1, k2 (by omega), by rw [g.1 (j - 1) (by omega) (by omega)]; exact h3⟩⟩
theorem cg_sum (g : cg N cd vl cd' vl') (d : Nat) : pr N (D_sum o cd vl d) (D_sum o cd' vl' d) := cg_sumF g (cg_part g d)
theorem cg_comp (g : cg N cd vl cd' vl') (d : Nat) : pr N (D_comp o cd vl d) (D_comp o cd' vl' d) := by
  rintro i j A i0 ⟨m, B, C, h1, h2, h3, h4⟩
  obtain ⟨k1, k2⟩ := cg_sum g d i m B i0 h1
  obtain ⟨l1, l2⟩ := cg_sum g d (m + 1) j C (by omega) h3
  refine ⟨by omega, fun jN => ⟨m, B, C, k2 (by omega), ?_, l2 jN, ?_⟩⟩
  · rw [g.1 m (by omega) (by omega)]; exact h2
  · rw [g.1 m (by omega) (by omega)]; exact h4
theorem cg_plainF {P P' : Int → Int → dn → Prop} (g : cg N cd vl cd' vl') (hP : pr N P P') : pr N (D_plainF cd P) (D_plainF cd' P') := by
  rintro i j A i0 ⟨n, B, h1, h2, h3, h4⟩
  obtain ⟨k1, k2⟩ := hP (i + n) j B (by omega) h3
  exact ⟨by omega, fun jN => ⟨n, B, fun k hk => by rw [g.1 (i + k) (by omega) (by omega)]; exact h1 k hk, by rw [g.1 (i + n) (by omega) (by omega)]; exact h2, k2 jN, h4⟩⟩
theorem cg_bothF {P P' : Int → Int → dn → Prop} (g : cg N cd vl cd' vl') (hP : pr N P P') : pr N (D_bothF cd P) (D_bothF cd' P') := by
  rintro i j A i0 ⟨m, B, n, h1, h2⟩
  obtain ⟨k1, k2⟩ := cg_plainF g hP i m B i0 h1
  obtain ⟨l1, l2⟩ := cg_ch g (cg_plainF g hP) n m B j A (by omega) h2
  exact ⟨by omega, fun jN => ⟨m, B, n, k2 (by omega), l2 jN⟩⟩
theorem cg_testF {P P' : Int → Int → dn → Prop} (g : cg N cd vl cd' vl') (hP : pr N P P') : pr N (D_testF cd P) (D_testF cd' P') := by
  rintro i j A i0 ⟨m, B, n, h1, h2⟩
  obtain ⟨k1, k2⟩ := cg_bothF g hP i m B i0 h1
  obtain ⟨l1, l2⟩ := cg_ch g (cg_bothF g hP) n m B j A (by omega) h2
  exact ⟨by omega, fun jN => ⟨m, B, n, k2 (by omega), l2 jN⟩⟩
theorem cg_pos (g : cg N cd vl cd' vl') (d : Nat) : pr N (D_pos o cd vl d) (D_pos o cd' vl' d) := by
  induction d with
  | zero => exact cg_comp g 0
  | succ d ih =>
    rintro i j A i0 (h | ⟨h1, h2, h3⟩)
    · obtain ⟨k1, k2⟩ := cg_comp g (d + 1) i j A i0 h
      exact ⟨k1, fun jN => Or.inl (k2 jN)⟩
    · obtain ⟨k1, k2⟩ := cg_testF g ih (i + 1) (j - 1) A (by omega) h2
      exact ⟨by omega, fun jN => Or.inr ⟨by rw [g.1 i i0 (by omega)]; exact h1, k2 (by omega), by rw [g.1 (j - 1) (by omega) (by omega)]; exact h3⟩⟩
theorem cg_test (g : cg N cd vl cd' vl') (d : Nat) : pr N (D_test o cd vl d) (D_test o cd' vl' d) := cg_testF g (cg_pos g d)
theorem cg_bd {ns i j t0 s : Int} {X M : Int → Int} (g : cg N cd vl cd' vl') (i0 : 0 ≤ i) (jN : j ≤ N) (h : cl_bd o cd vl ns i j t0 X M s) : cl_bd o cd' vl' ns i j t0 X M s := by
  obtain ⟨m, m', h1, h2, ⟨h3, h4⟩, h5⟩ := h
  have im : i ≤ m := by
    rcases h1 with ⟨a1, a2, a3, a4, a5⟩ | ⟨a1, a2, a3, a4, A, a5, a6⟩ | ⟨a1, j1, j2, A0, A1, A2, l, D0, c0, D1, c1, D2, K0, K1, K2⟩ <;> omega
  have mm : m ≤ m' := by
    rcases h2 with ⟨b1, b2, b3⟩ | ⟨b1, b2, b3, b4, b5, b6⟩ <;> omega
  have mj : m' ≤ j := by
    rcases h3 with ⟨b1, b2, b3⟩ | ⟨b1, b2, b3⟩ <;> omega
  refine ⟨m, m', ?_, ?_, ⟨?_, h4⟩, h5⟩
  · rcases h1 with h1 | ⟨a1, a2, a3, a4, A, a5, a6⟩ | ⟨a1, j1, j2, A0, A1, A2, l, D0, c0, D1, c1, D2, K0, K1, K2⟩
    · exact Or.inl h1
    · exact Or.inr (Or.inl ⟨a1, a2, a3, a4, A, (cg_sum g 8 i m A i0 a5).2 (by omega), a6⟩)
    · exact Or.inr (Or.inr ⟨a1, j1, j2, A0, A1, A2, l, (cg_sum g 8 i j1 A0 i0 D0).2 (by omega), by rw [g.1 j1 (by omega) (by omega)]; exact c0, (cg_sum g 8 (j1 + 1) j2 A1 (by omega) D1).2 (by omega), by rw [g.1 j2 (by omega) (by omega)]; exact c1, (cg_sum g 8 (j2 + 1) m A2 (by omega) D2).2 (by omega), K0, K1, K2⟩)
  · unfold cl_tm
    rw [g.1 m (by omega) (by omega)]
    rcases h2 with h2 | ⟨b1, b2, b3, b4, b5, b6⟩
    · exact Or.inl h2
    · rw [g.1 (m + 1) (by omega) (by omega), g.2 (m + 1) (by omega) (by omega)]
      exact Or.inr ⟨b1, b2, b3, b4, b5, b6⟩
  · unfold cl_if
    rw [g.1 m' (by omega) (by omega)]
    rcases h3 with h3 | ⟨b1, b2, T, b3, b4⟩
    · exact Or.inl h3
    · exact Or.inr ⟨b1, b2, T, (cg_test g 8 (m' + 1) j T (by omega) b3).2 jN, b4⟩
theorem cg_ok {i j s : Int} {X M : Int → Int} (g : cg N cd vl cd' vl') (i0 : 0 ≤ i) (ij : i < j) (jN : j ≤ N) (h : cl_ok o cd vl i j X M s) : cl_ok o cd' vl' i j X M s := by
  unfold cl_ok
  rw [g.1 i i0 (by omega)]
  rcases h with ⟨a1, a2, a3, a4⟩ | ⟨a1, a2, a3, a4⟩
  · exact Or.inl ⟨a1, a2, a3, cg_bd g (by omega) jN a4⟩
  · exact Or.inr ⟨a1, a2, a3, cg_bd g (by omega) jN a4⟩
theorem cg_tc {s : Int} {X M : Int → Int} (g : cg N cd vl cd' vl') : ∀ (n : Nat) (i : Int), i ≤ N → tx_c o cd vl X M s n i → tx_c o cd' vl' X M s n i := by
  intro n
  induction n with
  | zero => intro i _ h; exact h
  | succ n ih =>
    rintro i iN ⟨b, e, h1, h2, h3, h4, h5⟩
    have b0 := tx_c_0 h1
    exact ⟨b, e, ih b (by omega) h1, h2, cg_ok g b0 h2 (by omega) h3, by rw [g.1 e (by omega) (by omega)]; exact h4, h5⟩
theorem cg_tx {s n : Int} {X M : Int → Int} (g : cg N cd vl cd' vl') (h : tx_ok o cd vl X M s N n) : tx_ok o cd' vl' X M s N n := by
  obtain ⟨m, b, h1, h2, h3, h4, h5⟩ := h
  exact ⟨m, b, h1, h2, cg_tc g m b (by omega) h3, h4, cg_ok g (tx_c_0 h3) h4 (Int.le_refl _) h5⟩
end QSG
section QSH
variable {V V' V1 V2 W W' : dV} {r x a i t c v p q k w0 f n h s u m j B N head high told : Int} {w X M cd vl : Int → Int} {S T A : dn}
theorem dv_l2i_ok {a : Int} (h0 : -2147483648 ≤ a) (h1 : a ≤ 2147483647) : dv_l2i a = a := by
  unfold dv_l2i
  rw [Int64.toInt_toInt32, dv_lof (by omega) (by omega)]
  exact dv_bm h0 h1
theorem q_mark (c0 : 0 ≤ c) (c1 : c ≤ 11) (k0 : 0 ≤ k) (k1 : k ≤ 7) : f_X10_mark V x c k = (V x 1 (c * 8 + k), ()) := by
  unfold f_X10_mark
  rw [bq, bq, if_neg (by omega), bq, if_neg (by omega), bq]
/-- what evaluating may change -/
def kq_fr (r : Int) (V V' : dV) : Prop := ∀ b m z, ¬ (b = r ∧ (m = 0 ∨ m = 2 ∨ m = 3)) → V' b m z = V b m z
theorem kq_r : kq_fr r V V := fun _ _ _ _ => rfl
theorem kq_t (h : kq_fr r V V') (h1 : kq_fr r V' V1) : kq_fr r V V1 := fun b m z k => (h1 b m z k).trans (h b m z k)
theorem kq_k (h : kx_fr r t V V') : kq_fr r V V' := fun b m z k => h.1 b m z (fun q => k ⟨q.1, by omega⟩)
theorem kq_2 {y : Int} : kq_fr r V (dv_u V r 2 j y) := fun b m z k => by
  unfold dv_u; rw [if_neg (fun e => k ⟨e.1, Or.inr (Or.inl e.2.1)⟩)]
/-- a TEST in code: none, or what is run -/
def cl_T (X : Int → Int) (p q : Int) (T : dn) : Prop := (p = q ∧ T = fun _ => some 1) ∨ K_seg X p q T 20
def so (x : Option Int) : Prop := ∃ v, x = some v ∧ v ≠ 0
/-- a reckoner's words -/
def kw_ok (V : dV) (r : Int) (w : Int → Int) : Prop := (∀ k, 0 ≤ k → k < 23 → V r 1 k = w k) ∧ ∀ k, -2147483648 ≤ w k ∧ w k ≤ 2147483647
theorem kw_f (h : kw_ok V r w) (f : kq_fr r V V') : kw_ok V' r w := ⟨fun k k0 k1 => by rw [f r 1 k (fun q => absurd q.2 (by decide))]; exact h.1 k k0 k1, h.2⟩
theorem c_isSo (c0 : 0 ≤ c) (c1 : c ≤ 11) (hT : cl_T (V x 0) (V x 1 (c * 8 + 6)) (V x 1 (c * 8 + 7)) T) (hs : V x 1 (c * 8 + 7) ≤ V x 2 0) (hw : kw_ok V r w) (hx : x ≠ r) : ∃ (V' : dV) (y : Int), f_X6_isSo V r x c = (V', y) ∧ kq_fr r V V' ∧ (y = 1 ∧ so (T w) ∨ y = 0 ∧ ¬ so (T w)) := by
  unfold f_X6_isSo
  rw [dv_bn2 (q_mark c0 c1 (by decide) (by decide)), dv_bn2 (q_mark c0 c1 (by decide) (by decide))]
  rcases hT with ⟨e, rfl⟩ | hK
  · rw [if_pos e]
    exact ⟨V, 1, rfl, kq_r, Or.inl ⟨rfl, 1, rfl, by decide⟩⟩
  · have l := hK.1
    rw [if_neg (by omega)]
    obtain ⟨V1, y, e1, f1, h1⟩ := K_run hK (by decide) (fun _ _ _ => rfl) hs hw.1 hx hw.2
    rw [dv_bn2 e1, bq]
    cases hTw : T w with
    | none =>
      rw [hTw] at h1
      have h1 : V1 r 3 0 ≠ 0 := h1
      by_cases e2 : dv_lcmp y 0 = 0
      · rw [if_pos e2]
        exact ⟨V1, 0, rfl, kq_k f1, Or.inr ⟨rfl, fun ⟨z, hz, _⟩ => by cases hz⟩⟩
      · rw [if_neg e2, bq, if_pos h1]
        exact ⟨V1, 0, rfl, kq_k f1, Or.inr ⟨rfl, fun ⟨z, hz, _⟩ => by cases hz⟩⟩
    | some v =>
      rw [hTw] at h1
      have h1 : V1 r 3 0 = 0 ∧ y = v := h1
      by_cases e2 : dv_lcmp y 0 = 0
      · rw [if_pos e2]
        have := lcmp_eq.mp e2
        exact ⟨V1, 0, rfl, kq_k f1, Or.inr ⟨rfl, fun ⟨z, hz, nz⟩ => by cases hz; omega⟩⟩
      · rw [if_neg e2, bq, if_neg (fun q => q h1.1)]
        exact ⟨V1, 1, rfl, kq_k f1, Or.inl ⟨rfl, v, rfl, fun q => e2 (lcmp_eq.mpr (by omega))⟩⟩
/-- one of a clause's sums -/
theorem c_sum0 (c0 : 0 ≤ c) (c1 : c ≤ 11) (j0 : 0 ≤ j) (j2 : j ≤ 2) (e : V x 1 (c * 8 + (2 + j)) = V x 1 (c * 8 + (2 + j + 1))) : f_X6_reckonSums_2b (V, r, x, c, j) = Sum.inl (dv_u V r 2 j 0, r, x, c, j + 1) := by
  rw [f_X6_reckonSums_2e]
  unfold f_X6_reckonSums_2c f_X6_reckonSums_55 f_X6_reckonSums_72
  rw [if_neg (by omega), bq, dv_bn2 (q_mark c0 c1 (by omega) (by omega)), bq, bq, dv_bn2 (q_mark c0 c1 (by omega) (by omega)), if_neg (fun z => z e), bq, if_pos e, bq]
theorem c_sum1 (c0 : 0 ≤ c) (c1 : c ≤ 11) (j0 : 0 ≤ j) (j2 : j ≤ 2) (hK : K_seg (V x 0) (V x 1 (c * 8 + (2 + j))) (V x 1 (c * 8 + (2 + j + 1))) S h) (h62 : h ≤ 62) (hs : V x 1 (c * 8 + (2 + j + 1)) ≤ V x 2 0) (hw : kw_ok V r w) (hx : x ≠ r) (iS : d_in S) : ∃ V' : dV, kq_fr r V V' ∧ (∀ z, z ≠ j → V' r 2 z = V r 2 z) ∧ ((∃ v, S w = some v ∧ V' r 2 j = v ∧ f_X6_reckonSums_2b (V, r, x, c, j) = Sum.inl (V', r, x, c, j + 1)) ∨ (S w = none ∧ f_X6_reckonSums_2b (V, r, x, c, j) = Sum.inr (V', 0))) := by
  have l := hK.1
  obtain ⟨V1, y, e1, f1, h1⟩ := K_run hK h62 (fun _ _ _ => rfl) hs hw.1 hx hw.2
  refine ⟨dv_u V1 r 2 j (dv_l2i y), kq_t (kq_k f1) kq_2, fun z hz => by rw [u_i hz, f1.1 r 2 z (fun q => absurd q.2 (by decide))], ?_⟩
  have e3 : dv_u V1 r 2 j (dv_l2i y) r 3 0 = V1 r 3 0 := u_j (by decide)
  rw [f_X6_reckonSums_2e]
  unfold f_X6_reckonSums_2c f_X6_reckonSums_55 f_X6_reckonSums_72
  rw [if_neg (by omega), bq, dv_bn2 (q_mark c0 c1 (by omega) (by omega)), bq, bq, dv_bn2 (q_mark c0 c1 (by omega) (by omega)), if_pos (by omega), dv_bn2 e1, bq, bq, if_neg (by omega), bq, e3]
  cases hS : S w with
  | none =>
    rw [hS] at h1
    have h1 : V1 r 3 0 ≠ 0 := h1
    rw [if_neg h1]
    exact Or.inr ⟨rfl, rfl⟩
  | some v =>
    rw [hS] at h1
    have h1 : V1 r 3 0 = 0 ∧ y = v := h1
    have b := iS w hw.2 v hS
    rw [if_pos h1.1, bq]
    exact Or.inl ⟨v, rfl, by rw [u_e, h1.2, dv_l2i_ok (by omega) (by omega)], rfl⟩
/-- a law's clause, i to j: what its SUM and its "if" say -/
def lc (cd vl : Int → Int) (i j : Int) (X M : Int → Int) (s m : Int) (S T : dn) : Prop := (0 ≤ M 0 ∧ M 0 ≤ 2) ∧ cd i = M 0 + 1 ∧ M 5 ≤ s ∧ M 7 ≤ s ∧ ((M 0 = 2 ∧ m = i + 1 ∧ M 3 = M 2 ∧ M 4 = M 2 ∧ M 5 = M 2 ∧ S = fun _ => some 1) ∨ (M 0 ≠ 2 ∧ i + 1 < m ∧ M 4 = M 3 ∧ M 5 = M 3 ∧ D_sum 0 cd vl 8 (i + 1) m S ∧ K_seg X (M 2) (M 3) S 19)) ∧ ((cd m ≠ 4 ∧ j = m ∧ M 6 = M 7 ∧ T = fun _ => some 1) ∨ (cd m = 4 ∧ m + 1 < j ∧ D_test 0 cd vl 8 (m + 1) j T ∧ K_seg X (M 6) (M 7) T 20))
theorem lc_of (h : cl_ok 0 cd vl i j X M s) : ∃ (m : Int) (S T : dn), lc cd vl i j X M s m S T := by
  rcases h with ⟨-, h2, h3, m, m', h4, h5, ⟨h6, h7⟩, h8⟩ | ⟨h1, -⟩
  · have hm : m' = m := by
      rcases h5 with ⟨-, b, -⟩ | ⟨b, -⟩
      · exact b
      · exact absurd b (by decide)
    subst hm
    have hT : ∃ T : dn, ((cd m' ≠ 4 ∧ j = m' ∧ M 6 = M 7 ∧ T = fun _ => some 1) ∨ (cd m' = 4 ∧ m' + 1 < j ∧ D_test 0 cd vl 8 (m' + 1) j T ∧ K_seg X (M 6) (M 7) T 20)) := by
      rcases h6 with ⟨b1, b2, b3⟩ | ⟨b1, b2, T, b3, b4⟩
      · exact ⟨_, Or.inl ⟨b1, b2, b3, rfl⟩⟩
      · exact ⟨T, Or.inr ⟨b1, b2, b3, b4⟩⟩
    obtain ⟨T, hT⟩ := hT
    by_cases e : M 0 = 2
    · rw [if_pos e] at h4
      rcases h4 with ⟨-, a2, a3, a4, a5⟩ | ⟨a1, -⟩ | ⟨a1, -⟩
      · exact ⟨m', fun _ => some 1, T, h2, h3, h8, h7, Or.inl ⟨e, a2, a3, a4, a5, rfl⟩, hT⟩
      · exact absurd a1 (by decide)
      · exact absurd a1 (by decide)
    · rw [if_neg e] at h4
      rcases h4 with ⟨a1, -⟩ | ⟨-, a2, a3, a4, S, a5, a6⟩ | ⟨a1, -⟩
      · exact absurd a1 (by decide)
      · exact ⟨m', S, T, h2, h3, h8, h7, Or.inr ⟨e, a2, a3, a4, a5, a6⟩, hT⟩
      · exact absurd a1 (by decide)
  · exact absurd h1 (by decide)
/-- the class's sums of a law's clause -/
theorem c_sumsL (c0 : 0 ≤ c) (c1 : c ≤ 11) (hl : lc cd vl i j (V x 0) (fun k => V x 1 (c * 8 + k)) (V x 2 0) m S T) (hw : kw_ok V r w) (hx : x ≠ r) : ∃ (V' : dV) (y : Int), f_X6_reckonSums V r x c = (V', y) ∧ kq_fr r V V' ∧ (y = 1 ∧ (∃ v, S w = some v ∧ (V x 1 (c * 8 + 0) ≠ 2 → V' r 2 0 = v)) ∨ y = 0 ∧ S w = none) := by
  obtain ⟨h1, h2, h3, h4, h5, -⟩ := hl
  -- behind the first: nothing
  have FIN : ∀ U : dV, kq_fr r V U → V x 1 (c * 8 + 4) = V x 1 (c * 8 + 3) → V x 1 (c * 8 + 5) = V x 1 (c * 8 + 3) → ∃ V' : dV, dv_lp f_X6_reckonSums_2b (U, r, x, c, 1) = (V', 1) ∧ kq_fr r V V' ∧ V' r 2 0 = U r 2 0 := by
    intro U hU g4 g5
    have ux : ∀ z, U x 1 z = V x 1 z := fun z => hU x 1 z (fun q => hx q.1)
    have e1 := c_sum0 (V := U) (r := r) (x := x) (c := c) (j := 1) c0 c1 (by decide) (by decide) (by rw [ux, ux]; show V x 1 (c * 8 + 3) = V x 1 (c * 8 + 4); rw [g4])
    have ux1 : ∀ z, dv_u U r 2 1 0 x 1 z = V x 1 z := fun z => by rw [u_b hx, ux]
    have e2 := c_sum0 (V := dv_u U r 2 1 0) (r := r) (x := x) (c := c) (j := 1 + 1) c0 c1 (by decide) (by decide) (by rw [ux1, ux1]; show V x 1 (c * 8 + 4) = V x 1 (c * 8 + 5); rw [g4, g5])
    refine ⟨dv_u (dv_u U r 2 1 0) r 2 (1 + 1) 0, ?_, kq_t (kq_t hU kq_2) kq_2, by rw [u_i (by decide), u_i (by decide)]⟩
    rw [dv_lp_s e1, dv_lp_s e2]
    refine dv_lp_e ?_
    rw [f_X6_reckonSums_2e]
    unfold f_X6_reckonSums_2c
    rw [if_pos (by decide)]
  unfold f_X6_reckonSums
  rcases h5 with ⟨a1, a2, a3, a4, a5, rfl⟩ | ⟨a1, a2, a3, a4, a5, a6⟩
  · have e1 := c_sum0 (V := V) (r := r) (x := x) (c := c) (j := 0) c0 c1 (by decide) (by decide) (by show V x 1 (c * 8 + 2) = V x 1 (c * 8 + 3); exact a3.symm)
    obtain ⟨V', e2, f2, -⟩ := FIN (dv_u V r 2 0 0) kq_2 (a4.trans a3.symm) (a5.trans a3.symm)
    exact ⟨V', 1, by rw [dv_lp_s e1]; exact e2, f2, Or.inl ⟨rfl, 1, rfl, fun q => absurd a1 q⟩⟩
  · have a5' := D_sum_in a5
    have l := a6.1
    obtain ⟨U, f1, -, ⟨v, hv, u0, e1⟩ | ⟨hv, e1⟩⟩ := c_sum1 (V := V) (r := r) (x := x) (c := c) (j := 0) (h := 19) (w := w) c0 c1 (by decide) (by decide) a6 (by decide) (by have h3 : V x 1 (c * 8 + 5) ≤ V x 2 0 := h3; have a4 : V x 1 (c * 8 + 5) = V x 1 (c * 8 + 3) := a4; show V x 1 (c * 8 + 3) ≤ _; omega) hw hx a5'
    · obtain ⟨V', e2, f2, g2⟩ := FIN U f1 a3 a4
      exact ⟨V', 1, by rw [dv_lp_s e1]; exact e2, f2, Or.inl ⟨rfl, v, hv, fun _ => by rw [g2, u0]⟩⟩
    · exact ⟨U, 0, dv_lp_e e1, f1, Or.inr ⟨rfl, hv⟩⟩
theorem lc_T (hl : lc cd vl i j X M s m S T) : cl_T X (M 6) (M 7) T := by
  obtain ⟨-, -, -, -, -, h6⟩ := hl
  rcases h6 with ⟨-, -, b, c⟩ | ⟨-, -, -, d⟩
  · exact Or.inl ⟨b, c⟩
  · exact Or.inr d
end QSH
section QSI
variable {V V' V0 V1 V2 U W W' : dV} {r x a i t c v p q k f n h s u m j B N head high told y z b e jd rk κ : Int} {w X M cd vl : Int → Int} {S T A : dn}
def clamp (high s : Int) : Int := if s < 0 then 0 else if high < s then high else s
theorem r_156 : ∃ told', f_X12_tells_156 U u y c a head high told z = Sum.inl (dv_u U a 22 0 (U a 22 0 + 1), a, head, high, told') ∧ ((c = head ∧ z ≠ 0 ∧ U a 24 0 = 0 ∧ u = 0 ∧ told' = clamp high y) ∨ (¬ (c = head ∧ z ≠ 0 ∧ U a 24 0 = 0 ∧ u = 0) ∧ told' = told)) := by
  have L : ∀ g, f_X12_tells_211 U a head high g = Sum.inl (dv_u U a 22 0 (U a 22 0 + 1), a, head, high, g) := fun g => by
    unfold f_X12_tells_211
    rw [bq, bq, bq]
  unfold f_X12_tells_156
  by_cases e1 : c = head
  · rw [if_neg (fun q => q e1)]
    by_cases e2 : z = 0
    · rw [if_pos e2, L]; exact ⟨_, rfl, Or.inr ⟨fun q => q.2.1 e2, rfl⟩⟩
    · rw [if_neg e2, bq]
      by_cases e3 : U a 24 0 = 0
      · rw [if_neg (fun q => q e3)]
        by_cases e4 : u = 0
        · rw [if_neg (fun q => q e4), bq]
          by_cases e5 : 0 ≤ dv_lcmp y 0
          · have g5 := lcmp_ge.mp e5
            rw [if_pos e5, bq, bq]
            by_cases e6 : dv_lcmp y high ≤ 0
            · have g6 := lcmp_le.mp e6
              rw [if_pos e6, L]
              refine ⟨_, rfl, Or.inl ⟨e1, e2, e3, e4, ?_⟩⟩
              unfold clamp; rw [if_neg (by omega), if_neg (by omega)]
            · have g6 : ¬ y ≤ high := fun q => e6 (lcmp_le.mpr q)
              rw [if_neg e6, bq, L]
              refine ⟨_, rfl, Or.inl ⟨e1, e2, e3, e4, ?_⟩⟩
              unfold clamp; rw [if_neg (by omega), if_pos (by omega)]
          · have g5 : ¬ 0 ≤ y := fun q => e5 (lcmp_ge.mpr q)
            rw [if_neg e5, L]
            refine ⟨_, rfl, Or.inl ⟨e1, e2, e3, e4, ?_⟩⟩
            unfold clamp; rw [if_pos (by omega)]
        · rw [if_pos e4, L]; exact ⟨_, rfl, Or.inr ⟨fun q => e4 q.2.2.2, rfl⟩⟩
      · rw [if_pos e3, L]; exact ⟨_, rfl, Or.inr ⟨fun q => e3 q.2.2.1, rfl⟩⟩
  · rw [if_pos e1, L]; exact ⟨_, rfl, Or.inr ⟨fun q => e1 q.1, rfl⟩⟩
theorem r_122 (hT : (cd m ≠ 4 ∧ j = m ∧ T = fun _ => some 1) ∨ (cd m = 4 ∧ m + 1 < j ∧ D_test 0 cd vl 8 (m + 1) j T)) (m0 : 0 ≤ m) (hx : ex_cx 0 cd vl w a B U) (hg : U a 22 0 = B + m) (hw : ∀ k, -2147483648 ≤ w k ∧ w k ≤ 2147483647) : ∃ (V' : dV) (told' : Int), f_X12_tells_122 U c a head high told y = Sum.inl (V', a, head, high, told') ∧ ex_fr a U V' ∧ V' a 22 0 = B + (j + 1) ∧ ((c = head ∧ so (T w) ∧ U a 24 0 = 0 ∧ told' = clamp high y) ∨ (¬ (c = head ∧ so (T w) ∧ U a 24 0 = 0) ∧ told' = told)) := by
  have F1 : ex_fr a U (dv_u U a 24 0 0) := ex_fr_24
  have x1 := ex_cx_f hx F1
  have g1 : dv_u U a 24 0 0 a 22 0 = B + m := by rw [u24_22]; exact hg
  have b1 : dv_u U a 24 0 0 a 24 0 = 0 := u24
  unfold f_X12_tells_122 f_X12_tells_151
  rw [bq, bq]
  generalize dv_u U a 24 0 0 = U1 at F1 x1 g1 b1
  rcases hT with ⟨h4, rfl, rfl⟩ | ⟨h4, hl, hD⟩
  · rw [dv_bn2 (q_pass0 x1 m0 g1 h4), if_pos rfl]
    obtain ⟨told', e1, h1⟩ := r_156 (U := U1) (u := U a 24 0) (y := y) (c := c) (a := a) (head := head) (high := high) (told := told) (z := 1)
    rw [e1]
    refine ⟨_, told', rfl, ex_fr_t F1 ex_fr_22, by rw [u22, g1]; omega, ?_⟩
    rcases h1 with ⟨k1, -, -, k4, k5⟩ | ⟨k1, k2⟩
    · exact Or.inl ⟨k1, ⟨1, rfl, by decide⟩, k4, k5⟩
    · exact Or.inr ⟨fun q => k1 ⟨q.1, by decide, b1, q.2.2⟩, k2⟩
  · rw [dv_bn2 (q_pass1 x1 m0 g1 h4), if_neg (by decide)]
    have F2 : ex_fr a U1 (dv_u U1 a 22 0 (B + (m + 1))) := ex_fr_22
    have x2 := ex_cx_f x1 F2
    have g2 : dv_u U1 a 22 0 (B + (m + 1)) a 22 0 = B + (m + 1) := u22
    have b2 : dv_u U1 a 22 0 (B + (m + 1)) a 24 0 = 0 := by rw [u22_24]; exact b1
    generalize dv_u U1 a 22 0 (B + (m + 1)) = U2 at F2 x2 g2 b2
    obtain ⟨U3, v, e3, F3, g3, r3, -⟩ := er_test (Or.inl rfl) hw 8 (m + 1) j T hD (by omega) U2 1 x2 g2
    unfold ex_rs at r3
    rw [if_neg (by decide), b2, if_neg (fun q => q rfl)] at r3
    have FF := ex_fr_t (ex_fr_t F1 F2) F3
    rw [dv_bn2 e3]
    have FIN : ∀ zz, (zz = 0 ↔ v = 0) → ∃ (V' : dV) (told' : Int), f_X12_tells_156 U3 (U a 24 0) y c a head high told zz = Sum.inl (V', a, head, high, told') ∧ ex_fr a U V' ∧ V' a 22 0 = B + (j + 1) ∧ ((c = head ∧ so (T w) ∧ U a 24 0 = 0 ∧ told' = clamp high y) ∨ (¬ (c = head ∧ so (T w) ∧ U a 24 0 = 0) ∧ told' = told)) := by
      intro zz hz
      obtain ⟨told', e1, h1⟩ := r_156 (U := U3) (u := U a 24 0) (y := y) (c := c) (a := a) (head := head) (high := high) (told := told) (z := zz)
      refine ⟨_, told', e1, ex_fr_t FF ex_fr_22, by rw [u22, g3]; omega, ?_⟩
      cases hTw : T w with
      | none =>
        rw [hTw] at r3
        have r3 : U3 a 24 0 ≠ 0 := r3
        rcases h1 with ⟨-, -, k3, -⟩ | ⟨k1, k2⟩
        · exact absurd k3 r3
        · exact Or.inr ⟨fun q => (by obtain ⟨z, hz, _⟩ := q.2.1; cases hz), k2⟩
      | some t =>
        rw [hTw] at r3
        have r3 : U3 a 24 0 = 0 ∧ v = t := r3
        rcases h1 with ⟨k1, k0, -, k4, k5⟩ | ⟨k1, k2⟩
        · exact Or.inl ⟨k1, ⟨t, rfl, fun q => k0 (hz.mpr (by omega))⟩, k4, k5⟩
        · refine Or.inr ⟨fun q => k1 ⟨q.1, fun q0 => ?_, r3.1, q.2.2⟩, k2⟩
          obtain ⟨t', ht, nt⟩ := q.2.1
          cases ht
          have := hz.mp q0
          omega
    by_cases ev : v = 0
    · rw [if_pos ev]; exact FIN 0 ⟨fun _ => ev, fun _ => rfl⟩
    · rw [if_neg ev]; exact FIN 1 ⟨fun q => absurd q (by decide), fun q => absurd q ev⟩
/-- the reference's clause -/
theorem r_clause (hl : lc cd vl i j X M s m S T) (i0 : 0 ≤ i) (hx : ex_cx 0 cd vl w a B V) (hg : V a 22 0 = B + i) (hlt : B + i < V a 23 0) (hw : ∀ k, -2147483648 ≤ w k ∧ w k ≤ 2147483647) : ∃ (V' : dV) (told' : Int), f_X12_tells_71b (V, a, head, high, told) = Sum.inl (V', a, head, high, told') ∧ ex_fr a V V' ∧ V' a 22 0 = B + (j + 1) ∧ ((cd i = head ∧ so (T w) ∧ (∃ v, S w = some v ∧ told' = clamp high v)) ∨ (¬ (cd i = head ∧ so (T w) ∧ S w ≠ none) ∧ told' = told)) := by
  obtain ⟨h1, h2, -, -, h5, h6⟩ := hl
  have h6' : (cd m ≠ 4 ∧ j = m ∧ T = fun _ => some 1) ∨ (cd m = 4 ∧ m + 1 < j ∧ D_test 0 cd vl 8 (m + 1) j T) := by
    rcases h6 with ⟨a1, a2, a3, a4⟩ | ⟨a1, a2, a3, a4⟩
    · exact Or.inl ⟨a1, a2, a4⟩
    · exact Or.inr ⟨a1, a2, a3⟩
  have F1 : ex_fr a V (dv_u V a 24 0 0) := ex_fr_24
  have g1 : dv_u V a 24 0 0 a 22 0 = B + i := by rw [u24_22]; exact hg
  have F2 : ex_fr a V (dv_u (dv_u V a 24 0 0) a 22 0 (B + i + 1)) := ex_fr_t F1 ex_fr_22
  have g2 : dv_u (dv_u V a 24 0 0) a 22 0 (B + i + 1) a 22 0 = B + (i + 1) := by rw [u22]; omega
  have b2 : dv_u (dv_u V a 24 0 0) a 22 0 (B + i + 1) a 24 0 = 0 := by rw [u22_24, u24]
  rw [f_X12_tells_71e]
  unfold f_X12_tells_71c
  rw [bq, bq, if_neg (by omega), bq, dv_bn2 (q_codeAt hx i0 hg), bq, bq, g1, bq, bq]
  generalize dv_u (dv_u V a 24 0 0) a 22 0 (B + i + 1) = U at F2 g2 b2
  have x2 := ex_cx_f hx F2
  rcases h5 with ⟨a1, rfl, -, -, -, rfl⟩ | ⟨a1, a2, -, -, a5, -⟩
  · rw [if_neg (by omega)]
    obtain ⟨V', told', e1, e2, e3, e4⟩ := r_122 (y := 1) (c := cd i) (head := head) (high := high) (told := told) h6' (by omega) x2 g2 hw
    refine ⟨V', told', e1, ex_fr_t F2 e2, e3, ?_⟩
    rcases e4 with ⟨k1, k2, k3, k4⟩ | ⟨k1, k2⟩
    · exact Or.inl ⟨k1, k2, 1, rfl, k4⟩
    · exact Or.inr ⟨fun q => k1 ⟨q.1, q.2.1, b2⟩, k2⟩
  · rw [if_pos (by omega)]
    obtain ⟨U3, v, e3, F3, g3, r3, -⟩ := er_sum (Or.inl rfl) hw 8 (i + 1) m S a5 (by omega) U 1 x2 g2
    unfold ex_rs at r3
    rw [if_neg (by decide), b2, if_neg (fun q => q rfl)] at r3
    rw [dv_bn2 e3]
    obtain ⟨V', told', e1, e2, e3, e4⟩ := r_122 (y := v) (c := cd i) (head := head) (high := high) (told := told) h6' (by omega) (ex_cx_f x2 F3) g3 hw
    refine ⟨V', told', e1, ex_fr_t (ex_fr_t F2 F3) e2, e3, ?_⟩
    cases hS : S w with
    | none =>
      rw [hS] at r3
      have r3 : U3 a 24 0 ≠ 0 := r3
      rcases e4 with ⟨-, -, k3, -⟩ | ⟨k1, k2⟩
      · exact absurd k3 r3
      · exact Or.inr ⟨fun q => q.2.2 rfl, k2⟩
    | some t =>
      rw [hS] at r3
      have r3 : U3 a 24 0 = 0 ∧ v = t := r3
      rcases e4 with ⟨k1, k2, k3, k4⟩ | ⟨k1, k2⟩
      · exact Or.inl ⟨k1, k2, t, rfl, by rw [k4, r3.2]⟩
      · exact Or.inr ⟨fun q => k1 ⟨q.1, q.2.1, r3.1⟩, k2⟩
/-- both behind n clauses: r is what the last that holds tells -/
def JJ (κ high : Int) (cd vl w : Int → Int) (V0 : dV) (jd rk x a B N : Int) (n : Nat) (i : Int) (r : Option Int) : Prop := (∀ V, kq_fr rk V0 V → ∃ (V' : dV) (y : Int), dv_lp f_X2_holds_1_15b (V, jd, x, κ, (n : Int) - 1) = (V', y) ∧ kq_fr rk V0 V' ∧ (y = 1 ∧ (∃ v, r = some v ∧ (κ ≠ 2 → V' rk 2 0 = v)) ∨ y = 0 ∧ r = none)) ∧ (∀ (W : dV) (told : Int), ex_cx 0 cd vl w a B W → W a 22 0 = B → W a 23 0 = B + N → ∃ (W' : dV) (told' : Int), dv_lp f_X12_tells_71b (W, a, κ + 1, high, told) = dv_lp f_X12_tells_71b (W', a, κ + 1, high, told') ∧ ex_fr a W W' ∧ W' a 22 0 = B + i ∧ ((∃ v, r = some v ∧ told' = clamp high v ∧ (κ = 2 → v = 1)) ∨ (r = none ∧ told' = told)))
theorem JJ_0 : JJ κ high cd vl w V0 jd rk x a B N 0 0 none := by
  refine ⟨fun V hV => ⟨V, 0, ?_, hV, Or.inr ⟨rfl, rfl⟩⟩, fun W told hx hg _ => ⟨W, told, rfl, ex_fr_r, by omega, Or.inr ⟨rfl, rfl⟩⟩⟩
  refine dv_lp_e ?_
  rw [f_X2_holds_1_15e]
  unfold f_X2_holds_1_15c
  rw [if_pos (by decide)]
theorem JJ_s {n : Nat} {ro : Option Int} (hJ : JJ κ high cd vl w V0 jd rk x a B N n b ro) (hc : cl_ok 0 cd vl b e (V0 x 0) (fun k => V0 x 1 ((n : Int) * 8 + k)) (V0 x 2 0)) (n11 : n ≤ 11) (b0 : 0 ≤ b) (bN : b < N) (hj : V0 jd 0 0 = rk) (hjr : jd ≠ rk) (hxr : x ≠ rk) (hw : kw_ok V0 rk w) : ∃ r', JJ κ high cd vl w V0 jd rk x a B N (n + 1) (e + 1) r' := by
  obtain ⟨m, S, T, hl⟩ := lc_of hc
  have hcd : cd b = V0 x 1 ((n : Int) * 8 + 0) + 1 := hl.2.1
  have hn : ((n + 1 : Nat) : Int) - 1 = (n : Int) := by omega
  -- the class's clause
  have CL : ∀ V, kq_fr rk V0 V → ∃ V1, kq_fr rk V0 V1 ∧ ((V0 x 1 ((n : Int) * 8 + 0) = κ ∧ so (T w) ∧ (∃ v, S w = some v ∧ (κ ≠ 2 → V1 rk 2 0 = v)) ∧ f_X2_holds_1_15b (V, jd, x, κ, (n : Int)) = Sum.inr (V1, 1)) ∨ (¬ (V0 x 1 ((n : Int) * 8 + 0) = κ ∧ so (T w) ∧ S w ≠ none) ∧ f_X2_holds_1_15b (V, jd, x, κ, (n : Int)) = Sum.inl (V1, jd, x, κ, (n : Int) - 1))) := by
    intro V hV
    have vx : ∀ m z, V x m z = V0 x m z := fun m z => hV x m z (fun q => hxr q.1)
    have vj : V jd 0 0 = rk := by rw [hV jd 0 0 (fun q => hjr q.1), hj]
    have hl1 : lc cd vl b e (V x 0) (fun k => V x 1 ((n : Int) * 8 + k)) (V x 2 0) m S T := by
      rw [show V x 0 = V0 x 0 from funext (vx 0), show V x 1 = V0 x 1 from funext (vx 1), vx]
      exact hl
    have hw1 := kw_f hw hV
    have L55 : ∀ U : dV, f_X2_holds_1_55 U jd x κ (n : Int) = Sum.inl (U, jd, x, κ, (n : Int) - 1) := fun U => by
      unfold f_X2_holds_1_55
      rw [bq]
      rfl
    rw [f_X2_holds_1_15e]
    unfold f_X2_holds_1_15c
    rw [if_neg (by omega), dv_bn2 (q_mark (by omega) (by omega) (by decide) (by decide)), vx]
    by_cases e1 : V0 x 1 ((n : Int) * 8 + 0) = κ
    · rw [if_neg (fun q => q e1), bq, vj]
      obtain ⟨V1, y1, f1, g1, h1⟩ := c_isSo (c := (n : Int)) (by omega) (by omega) (lc_T hl1) hl1.2.2.2.1 hw1 hxr
      rw [dv_bn2 f1]
      rcases h1 with ⟨rfl, h1⟩ | ⟨rfl, h1⟩
      · have v1j : V1 jd 0 0 = rk := by rw [g1 jd 0 0 (fun q => hjr q.1), vj]
        have v1x : ∀ m z, V1 x m z = V x m z := fun m z => g1 x m z (fun q => hxr q.1)
        have hl2 : lc cd vl b e (V1 x 0) (fun k => V1 x 1 ((n : Int) * 8 + k)) (V1 x 2 0) m S T := by
          rw [show V1 x 0 = V x 0 from funext (v1x 0), show V1 x 1 = V x 1 from funext (v1x 1), v1x]
          exact hl1
        obtain ⟨V2, y2, f2, g2, h2⟩ := c_sumsL (c := (n : Int)) (by omega) (by omega) hl2 (kw_f hw1 g1) hxr
        rw [if_neg (by decide), bq, v1j, dv_bn2 f2]
        rcases h2 with ⟨rfl, v, h2, h3⟩ | ⟨rfl, h2⟩
        · rw [if_neg (by decide)]
          exact ⟨V2, kq_t (kq_t hV g1) g2, Or.inl ⟨e1, h1, ⟨v, h2, fun q => h3 (by rw [v1x, vx, e1]; exact q)⟩, rfl⟩⟩
        · rw [if_pos rfl, L55]
          exact ⟨V2, kq_t (kq_t hV g1) g2, Or.inr ⟨fun q => q.2.2 h2, rfl⟩⟩
      · rw [if_pos rfl, L55]
        exact ⟨V1, kq_t hV g1, Or.inr ⟨fun q => h1 q.2.1, rfl⟩⟩
    · rw [if_pos e1, L55]
      exact ⟨V, hV, Or.inr ⟨fun q => e1 q.1, rfl⟩⟩
  by_cases hh : V0 x 1 ((n : Int) * 8 + 0) = κ ∧ so (T w) ∧ S w ≠ none
  · obtain ⟨v, hv⟩ : ∃ v, S w = some v := by
      cases hS : S w with
      | none => exact absurd hS hh.2.2
      | some v => exact ⟨v, rfl⟩
    refine ⟨some v, fun V hV => ?_, fun W told hx hg h23 => ?_⟩
    · rw [hn]
      obtain ⟨V1, f1, ⟨-, -, ⟨v', hv', k1⟩, k2⟩ | ⟨k1, -⟩⟩ := CL V hV
      · rw [hv] at hv'
        cases hv'
        exact ⟨V1, 1, dv_lp_e k2, f1, Or.inl ⟨rfl, v, rfl, k1⟩⟩
      · exact absurd hh k1
    · obtain ⟨W1, t1, e1, f1, g1, -⟩ := hJ.2 W told hx hg h23
      obtain ⟨W2, t2, e2, f2, g2, h2⟩ := r_clause (head := κ + 1) (high := high) (told := t1) hl b0 (ex_cx_f hx f1) g1 (by rw [f1 a 23 0 (fun q => absurd q.2 (by decide)), h23]; omega) hw.2
      refine ⟨W2, t2, by rw [e1, dv_lp_s e2], ex_fr_t f1 f2, g2, ?_⟩
      rcases h2 with ⟨-, -, v', hv', k1⟩ | ⟨k1, -⟩
      · rw [hv] at hv'
        cases hv'
        refine Or.inl ⟨v, rfl, k1, fun q => ?_⟩
        rcases hl.2.2.2.2.1 with ⟨-, -, -, -, -, hS⟩ | ⟨hS, -⟩
        · rw [hS] at hv
          exact (Option.some.inj hv).symm
        · exact absurd (hh.1.trans q) hS
      · exact absurd ⟨by rw [hcd, hh.1], hh.2⟩ k1
  · refine ⟨ro, fun V hV => ?_, fun W told hx hg h23 => ?_⟩
    · rw [hn]
      obtain ⟨V1, f1, ⟨k1, k2, ⟨v', hv', -⟩, -⟩ | ⟨-, k2⟩⟩ := CL V hV
      · exact absurd ⟨k1, k2, by rw [hv']; exact fun q => by cases q⟩ hh
      · obtain ⟨V', y, e1, g1, h1⟩ := hJ.1 V1 f1
        exact ⟨V', y, by rw [dv_lp_s k2]; exact e1, g1, h1⟩
    · obtain ⟨W1, t1, e1, f1, g1, h1⟩ := hJ.2 W told hx hg h23
      obtain ⟨W2, t2, e2, f2, g2, h2⟩ := r_clause (head := κ + 1) (high := high) (told := t1) hl b0 (ex_cx_f hx f1) g1 (by rw [f1 a 23 0 (fun q => absurd q.2 (by decide)), h23]; omega) hw.2
      refine ⟨W2, t2, by rw [e1, dv_lp_s e2], ex_fr_t f1 f2, g2, ?_⟩
      rcases h2 with ⟨k1, k2, v', hv', -⟩ | ⟨-, k2⟩
      · exact absurd ⟨by omega, k2, by rw [hv']; exact fun q => by cases q⟩ hh
      · rw [k2]; exact h1
theorem JJ_c {n : Nat} (n12 : n ≤ 12) (hj : V0 jd 0 0 = rk) (hjr : jd ≠ rk) (hxr : x ≠ rk) (hw : kw_ok V0 rk w) : ∀ i, i ≤ N → tx_c 0 cd vl (V0 x 0) (V0 x 1) (V0 x 2 0) n i → ∃ ro, JJ κ high cd vl w V0 jd rk x a B N n i ro := by
  induction n with
  | zero => intro i _ h; have h : i = 0 := h; subst h; exact ⟨none, JJ_0⟩
  | succ n ih =>
    rintro i iN ⟨b, e, h1, h2, h3, h4, rfl⟩
    have b0 := tx_c_0 h1
    obtain ⟨ro, hJ⟩ := ih (by omega) b (by omega) h1
    exact JJ_s hJ h3 (by omega) b0 (by omega) hj hjr hxr hw
/-- class and reference ask a law the same -/
theorem JJ_w {n : Int} (hT : tx_ok 0 cd vl (V0 x 0) (V0 x 1) (V0 x 2 0) N n) (hj : V0 jd 0 0 = rk) (hjr : jd ≠ rk) (hxr : x ≠ rk) (hw : kw_ok V0 rk w) : ∃ ro, JJ κ high cd vl w V0 jd rk x a B N n.toNat (N + 1) ro := by
  obtain ⟨m, b, h1, h2, h3, h4, h5⟩ := hT
  obtain ⟨ro, hJ⟩ := JJ_c (κ := κ) (high := high) (a := a) (B := B) (N := N) (by omega) hj hjr hxr hw b (by omega) h3
  obtain ⟨r', hJ'⟩ := JJ_s hJ h5 h2 (tx_c_0 h3) h4 hj hjr hxr hw
  rw [show n.toNat = m + 1 by omega]
  exact ⟨r', hJ'⟩
end QSI
section QSJ
variable {V V' V0 V1 V2 U W W' : dV} {r x a i t c v p q k f n h s u m j B N head high y z b e jd rk κ fl lx px py wo : Int} {w X M cd vl : Int → Int}
/-- a text of a kept row, as the class reads it -/
def tcd (K : Int → Int) (b t : Int) : Int → Int := fun i => if i < K (b + (73 + t)) then K (b + (80 + 400 * t + i)) else 0
def tvl (K : Int → Int) (b t : Int) : Int → Int := fun i => K (b + (2880 + 400 * t + i))
def te_fr (a : Int) (W W' : dV) : Prop := ∀ b m z, ¬ (b = a ∧ 22 ≤ m ∧ m ≤ 26) → W' b m z = W b m z
theorem te_r : te_fr a W W := fun _ _ _ _ => rfl
theorem te_t (h : te_fr a W W') (h1 : te_fr a W' V) : te_fr a W V := fun b m z k => (h1 b m z k).trans (h b m z k)
theorem te_e (h : ex_fr a W W') : te_fr a W W' := fun b m z k => h b m z (fun q => k ⟨q.1, by omega⟩)
theorem te_u {j : Nat} (h : 22 ≤ j ∧ j ≤ 26) : te_fr a W (dv_u W a j i y) := fun b m z q => by
  unfold dv_u; rw [if_neg (fun e => q ⟨e.1, by rw [e.2.1]; exact h⟩)]
/-- the law in force -/
def lw_ok (V W : dV) (lx a : Int) : Prop := (W a 2 72 = -1 ∧ lx = -1) ∨ ((0 ≤ W a 2 72 ∧ W a 2 72 ≤ 5) ∧ lx ≠ -1 ∧ tx_ok 0 (tcd (W a 2) 0 (W a 2 72)) (tvl (W a 2) 0 (W a 2 72)) (V lx 0) (V lx 1) (V lx 2 0) (W a 2 (73 + W a 2 72)) (V lx 3 0))
theorem m_asked : ∃ W', f_X12_setsAsked W a c px py = (W', 0) ∧ te_fr a W W' ∧ W' a 26 0 = c ∧ W' a 26 1 = W a 2 (29 + c) ∧ W' a 26 2 = W a 2 (38 + c) ∧ W' a 26 3 = px ∧ W' a 26 4 = py ∧ W' a 26 5 = W a 2 66 ∧ W' a 26 6 = W a 2 c ∧ W' a 26 7 = W a 2 28 := by
  have t : ∀ (U : dV) (z y : Int), te_fr a U (dv_u U a 26 z y) := fun U z y => te_u (by decide)
  have k2 : ∀ (U : dV) (z y z' : Int), dv_u U a 26 z y a 2 z' = U a 2 z' := fun U z y z' => u_j (by decide)
  unfold f_X12_setsAsked
  simp only [bq, k2, Int.zero_add]
  refine ⟨_, rfl, te_t (te_t (te_t (te_t (te_t (te_t (te_t (t _ _ _) (t _ _ _)) (t _ _ _)) (t _ _ _)) (t _ _ _)) (t _ _ _)) (t _ _ _)) (t _ _ _), ?_, ?_, ?_, ?_, ?_, ?_, ?_, ?_⟩
  · rw [u_i (by decide), u_i (by decide), u_i (by decide), u_i (by decide), u_i (by decide), u_i (by decide), u_i (by decide), u_e]
  · rw [u_i (by decide), u_i (by decide), u_i (by decide), u_i (by decide), u_i (by decide), u_i (by decide), u_e]
  · rw [u_i (by decide), u_i (by decide), u_i (by decide), u_i (by decide), u_i (by decide), u_e]
  · rw [u_i (by decide), u_i (by decide), u_i (by decide), u_i (by decide), u_e]
  · rw [u_i (by decide), u_i (by decide), u_i (by decide), u_e]
  · rw [u_i (by decide), u_i (by decide), u_e]
  · rw [u_i (by decide), u_e]
  · rw [u_e]
theorem q_holds (hl : lw_ok V W lx a) (hj : V jd 0 0 = rk) (hjr : jd ≠ rk) (hxr : lx ≠ rk) (hw : kw_ok V rk w) (hc : w 0 = c ∧ w 1 = W a 2 (29 + c) ∧ w 2 = W a 2 (38 + c) ∧ w 3 = W a 2 c ∧ w 4 = px ∧ w 5 = py ∧ w 6 = W a 2 28 ∧ w 7 = W a 2 66) (hh : 0 ≤ high ∧ high ≤ 99) (ho : 0 ≤ wo ∧ wo ≤ 99) : ∃ (V' : dV) (y : Int) (W' : dV) (z : Int), f_X2_holds V jd lx κ = (V', y) ∧ f_X12_tells W a (κ + 1) c px py high wo = (W', z) ∧ kq_fr rk V V' ∧ te_fr a W W' ∧ ((y = 1 ∧ ∃ v, z = clamp high v ∧ (κ ≠ 2 → V' rk 2 0 = v) ∧ (κ = 2 → v = 1)) ∨ (y = 0 ∧ z = wo)) := by
  unfold f_X2_holds f_X12_tells
  rcases hl with ⟨h1, rfl⟩ | ⟨h1, h2, h3⟩
  · refine ⟨V, 0, W, wo, ?_, ?_, kq_r, te_r, Or.inr ⟨rfl, rfl⟩⟩
    · rw [if_pos rfl]
      unfold f_X2_holds_0
      refine dv_lp_e ?_
      rw [f_X2_holds_0_15e]
      unfold f_X2_holds_0_15c
      rw [if_pos (by decide)]
    · rw [bq, h1, if_neg (fun q => q rfl)]
  · obtain ⟨W1, e1, F1, s0, s1, s2, s3, s4, s5, s6, s7⟩ := m_asked (W := W) (a := a) (c := c) (px := px) (py := py)
    have k2 : ∀ z, W1 a 2 z = W a 2 z := fun z => F1 a 2 z (fun q => absurd q.2.1 (by decide))
    have G1 : te_fr a W1 (dv_u W1 a 25 0 0) := te_u (by decide)
    have G2 : te_fr a (dv_u W1 a 25 0 0) (dv_u (dv_u W1 a 25 0 0) a 22 0 (400 * W a 2 72)) := te_u (by decide)
    have G3 : te_fr a (dv_u (dv_u W1 a 25 0 0) a 22 0 (400 * W a 2 72)) (dv_u (dv_u (dv_u W1 a 25 0 0) a 22 0 (400 * W a 2 72)) a 23 0 (400 * W a 2 72 + W a 2 (73 + W a 2 72))) := te_u (by decide)
    have FF := te_t (te_t (te_t F1 G1) G2) G3
    have x2 : ∀ z, dv_u W1 a 25 0 0 a 2 z = W a 2 z := fun z => by rw [u_j (by decide), k2]
    have y2 : ∀ z, dv_u (dv_u W1 a 25 0 0) a 22 0 (400 * W a 2 72) a 2 z = W a 2 z := fun z => by rw [u_j (by decide), x2]
    have y22 : dv_u (dv_u W1 a 25 0 0) a 22 0 (400 * W a 2 72) a 22 0 = 400 * W a 2 72 := u_e
    have z22 : dv_u (dv_u (dv_u W1 a 25 0 0) a 22 0 (400 * W a 2 72)) a 23 0 (400 * W a 2 72 + W a 2 (73 + W a 2 72)) a 22 0 = 400 * W a 2 72 := by rw [u_j (by decide), u_e]
    have z23 : dv_u (dv_u (dv_u W1 a 25 0 0) a 22 0 (400 * W a 2 72)) a 23 0 (400 * W a 2 72 + W a 2 (73 + W a 2 72)) a 23 0 = 400 * W a 2 72 + W a 2 (73 + W a 2 72) := u_e
    have z25 : dv_u (dv_u (dv_u W1 a 25 0 0) a 22 0 (400 * W a 2 72)) a 23 0 (400 * W a 2 72 + W a 2 (73 + W a 2 72)) a 25 0 = 0 := by rw [u_j (by decide), u_j (by decide), u_e]
    have z26 : ∀ z, dv_u (dv_u (dv_u W1 a 25 0 0) a 22 0 (400 * W a 2 72)) a 23 0 (400 * W a 2 72 + W a 2 (73 + W a 2 72)) a 26 z = W1 a 26 z := fun z => by rw [u_j (by decide), u_j (by decide), u_j (by decide)]
    have z2 : ∀ z, dv_u (dv_u (dv_u W1 a 25 0 0) a 22 0 (400 * W a 2 72)) a 23 0 (400 * W a 2 72 + W a 2 (73 + W a 2 72)) a 2 z = W a 2 z := fun z => by rw [u_j (by decide), y2]
    rw [if_neg h2, bq, if_pos (by omega), dv_bn2 e1, bq, bq, bq, x2, bq, bq, bq, bq, y22, y2, bq, bq, y2, bq, bq]
    generalize dv_u (dv_u (dv_u W1 a 25 0 0) a 22 0 (400 * W a 2 72)) a 23 0 (400 * W a 2 72 + W a 2 (73 + W a 2 72)) = W2 at FF z22 z23 z25 z26 z2
    have hx : ex_cx 0 (tcd (W a 2) 0 (W a 2 72)) (tvl (W a 2) 0 (W a 2 72)) w a (400 * W a 2 72) W2 := by
      refine ⟨fun i i0 => ?_, fun i i0 => ?_, z25, fun _ c c8 c15 => ?_, fun q => absurd rfl q⟩
      · unfold tcd
        rw [z23, z2, Int.zero_add, Int.zero_add]
        by_cases e : i < W a 2 (73 + W a 2 72)
        · rw [if_pos e, if_pos (by omega)]; congr 1; omega
        · rw [if_neg e, if_neg (by omega)]
      · unfold tvl
        rw [z2, Int.zero_add]; congr 1; omega
      · obtain ⟨c0, c1, c2, c3, c4, c5, c6, c7⟩ := hc
        rw [z26]
        have hcs : c = 8 ∨ c = 9 ∨ c = 10 ∨ c = 11 ∨ c = 12 ∨ c = 13 ∨ c = 14 ∨ c = 15 := by omega
        rcases hcs with rfl | rfl | rfl | rfl | rfl | rfl | rfl | rfl
        · exact s0.trans c0.symm
        · exact s1.trans c1.symm
        · exact s2.trans c2.symm
        · exact s3.trans c4.symm
        · exact s4.trans c5.symm
        · exact s5.trans c7.symm
        · exact s6.trans c3.symm
        · exact s7.trans c6.symm
    obtain ⟨m, b, hn, hm, -⟩ := id h3
    obtain ⟨ro, J1, J2⟩ := JJ_w (κ := κ) (high := high) (a := a) (B := 400 * W a 2 72) h3 hj hjr hxr hw
    obtain ⟨V', y, f1, g1, k1⟩ := J1 V kq_r
    obtain ⟨W3, t3, f3, g3, u3, k3⟩ := J2 W2 wo hx z22 z23
    have hv : f_X2_holds_1 V jd lx κ = (V', y) := by
      unfold f_X2_holds_1
      rw [bq, bq, show V lx 3 0 - 1 = ((V lx 3 0).toNat : Int) - 1 by omega]
      exact f1
    have ht : 0 ≤ t3 ∧ t3 ≤ 99 := by
      rcases k3 with ⟨v, -, k3, -⟩ | ⟨-, k3⟩
      · rw [k3]; unfold clamp; split
        · omega
        · split <;> omega
      · omega
    have hW : dv_lp f_X12_tells_71b (W2, a, κ + 1, high, wo) = (W3, t3) := by
      rw [f3]
      refine dv_lp_e ?_
      rw [f_X12_tells_71e]
      unfold f_X12_tells_71c
      rw [bq, bq, u3, g3 a 23 0 (fun q => absurd q.2 (by decide)), z23, if_pos (by omega), bq, dv_l2i_ok (by omega) (by omega)]
    refine ⟨V', y, W3, t3, hv, hW, g1, te_t FF (te_e g3), ?_⟩
    rcases k1 with ⟨rfl, v, hr, k1⟩ | ⟨rfl, hr⟩
    · rcases k3 with ⟨v', hr', k3, k4⟩ | ⟨hr', -⟩
      · rw [hr] at hr'
        cases hr'
        exact Or.inl ⟨rfl, v, k3, k1, k4⟩
      · rw [hr] at hr'; cases hr'
    · rcases k3 with ⟨v', hr', -⟩ | ⟨-, k3⟩
      · rw [hr] at hr'; cases hr'
      · exact Or.inr ⟨rfl, k3⟩
/-- the class's words of a law -/
def kj_fr (rk : Int) (V V' : dV) : Prop := (∀ b m z, ¬ (b = rk ∧ m ≤ 3) → V' b m z = V b m z) ∧ ∀ z, 8 ≤ z → V' rk 1 z = V rk 1 z
theorem kj_t (h : kj_fr rk V V') (h1 : kj_fr rk V' V1) : kj_fr rk V V1 := ⟨fun b m z k => (h1.1 b m z k).trans (h.1 b m z k), fun z hz => (h1.2 z hz).trans (h.2 z hz)⟩
theorem kj_q (h : kq_fr rk V V') : kj_fr rk V V' := ⟨fun b m z k => h b m z (fun q => k ⟨q.1, by omega⟩), fun z _ => h rk 1 z (fun q => absurd q.2 (by decide))⟩
theorem kj_u (h : i < 8) : kj_fr rk V (dv_u V rk 1 i y) := ⟨fun b m z q => by
  unfold dv_u; rw [if_neg (fun e => q ⟨e.1, by rw [e.2.1]; decide⟩)], fun z hz => u_i (by omega)⟩
theorem c_words (hf : fl ≠ rk) : ∃ V', f_X6_setLawWords V rk fl c px py = (V', 0) ∧ kj_fr rk V V' ∧ V' rk 1 0 = c ∧ V' rk 1 1 = V fl 0 c ∧ V' rk 1 2 = V fl 1 c ∧ V' rk 1 3 = V fl 2 c ∧ V' rk 1 4 = px ∧ V' rk 1 5 = py ∧ V' rk 1 6 = V fl 5 0 ∧ V' rk 1 7 = V fl 5 2 := by
  have kf : ∀ (U : dV) (z y : Int) (m : Nat) (z' : Int), dv_u U rk 1 z y fl m z' = U fl m z' := fun U z y m z' => u_b hf
  unfold f_X6_setLawWords
  simp only [bq, kf]
  refine ⟨_, rfl, kj_t (kj_t (kj_t (kj_t (kj_t (kj_t (kj_t (kj_u (by decide)) (kj_u (by decide))) (kj_u (by decide))) (kj_u (by decide))) (kj_u (by decide))) (kj_u (by decide))) (kj_u (by decide))) (kj_u (by decide)), ?_, ?_, ?_, ?_, ?_, ?_, ?_, ?_⟩
  · rw [u_i (by decide), u_i (by decide), u_i (by decide), u_i (by decide), u_i (by decide), u_i (by decide), u_i (by decide), u_e]
  · rw [u_i (by decide), u_i (by decide), u_i (by decide), u_i (by decide), u_i (by decide), u_i (by decide), u_e]
  · rw [u_i (by decide), u_i (by decide), u_i (by decide), u_i (by decide), u_i (by decide), u_e]
  · rw [u_i (by decide), u_i (by decide), u_i (by decide), u_i (by decide), u_e]
  · rw [u_i (by decide), u_i (by decide), u_i (by decide), u_e]
  · rw [u_i (by decide), u_i (by decide), u_e]
  · rw [u_i (by decide), u_e]
  · rw [u_e]
/-- what the judge needs: its reckoner, the floor, the law -/
def jd_ok (V W : dV) (jd rk fl lx a : Int) : Prop := V jd 0 0 = rk ∧ jd ≠ rk ∧ fl ≠ rk ∧ lx ≠ rk ∧ lw_ok V W lx a ∧ ef9 (V fl) (kf (W a 2) 0) ∧ kgf (V fl) ∧ ∀ k, 8 ≤ k → k < 23 → -2147483648 ≤ V rk 1 k ∧ V rk 1 k ≤ 2147483647
theorem jd_ask (h : jd_ok V W jd rk fl lx a) (c0 : 0 ≤ c) (c1 : c < V fl 7 0) (hp : -1 ≤ px ∧ px ≤ 12) (hq : -1 ≤ py ∧ py ≤ 12) (hh : 0 ≤ high ∧ high ≤ 99) (ho : 0 ≤ wo ∧ wo ≤ 99) : ∃ (V1 V' : dV) (y : Int) (W' : dV) (z : Int), f_X6_setLawWords V rk fl c px py = (V1, 0) ∧ kj_fr rk V V1 ∧ f_X2_holds V1 jd lx κ = (V', y) ∧ f_X12_tells W a (κ + 1) c px py high wo = (W', z) ∧ kj_fr rk V V' ∧ te_fr a W W' ∧ ((y = 1 ∧ ∃ v, z = clamp high v ∧ (κ ≠ 2 → V' rk 2 0 = v) ∧ (κ = 2 → v = 1)) ∨ (y = 0 ∧ z = wo)) := by
  obtain ⟨h1, h2, h3, h4, h5, h6, h7, h8⟩ := h
  obtain ⟨V1, e1, F1, s0, s1, s2, s3, s4, s5, s6, s7⟩ := c_words (V := V) (c := c) (px := px) (py := py) h3
  obtain ⟨⟨n7, n8, n9, nc⟩, -, ns, -, -, -, y0, -, y2⟩ := h7
  have hc9 : c < 9 := by omega
  obtain ⟨e0, ek, ep, -, -⟩ := h6.1 c c0 hc9
  obtain ⟨t0, -, t2⟩ := h6.2.1
  simp only [kf, Int.zero_add] at e0 ek ep t0 t2
  rw [if_pos trivial] at t0
  rw [if_neg (by decide)] at t2
  have b1 := nc c c0 c1
  have b2 := ns c c0 c1
  have vx : lx ≠ -1 → ∀ m z, V1 lx m z = V lx m z := fun _ m z => F1.1 lx m z (fun q => h4 q.1)
  have hw : kw_ok V1 rk (fun k => if 0 ≤ k ∧ k < 23 then V1 rk 1 k else 0) := by
    refine ⟨fun k k0 k1 => by dsimp only; rw [if_pos ⟨k0, k1⟩], fun k => ?_⟩
    dsimp only
    by_cases e : 0 ≤ k ∧ k < 23
    · rw [if_pos e]
      by_cases e8 : 8 ≤ k
      · rw [F1.2 k e8]; exact h8 k e8 e.2
      · have hk : k = 0 ∨ k = 1 ∨ k = 2 ∨ k = 3 ∨ k = 4 ∨ k = 5 ∨ k = 6 ∨ k = 7 := by omega
        rcases hk with rfl | rfl | rfl | rfl | rfl | rfl | rfl | rfl
        · rw [s0]; omega
        · rw [s1]; omega
        · rw [s2]; omega
        · rw [s3]; omega
        · rw [s4]; omega
        · rw [s5]; omega
        · rw [s6]; omega
        · rw [s7]; omega
    · rw [if_neg e]; decide
  have hl1 : lw_ok V1 W lx a := by
    rcases h5 with h5 | ⟨k1, k2, k3⟩
    · exact Or.inl h5
    · have vv := vx k2
      refine Or.inr ⟨k1, k2, ?_⟩
      rw [show V1 lx 0 = V lx 0 from funext (vv 0), show V1 lx 1 = V lx 1 from funext (vv 1), vv, vv]
      exact k3
  have hj1 : V1 jd 0 0 = rk := by rw [F1.1 jd 0 0 (fun q => h2 q.1), h1]
  obtain ⟨V', y, W', z, f1, f2, f3, f4, f5⟩ := q_holds (κ := κ) (c := c) (px := px) (py := py) (high := high) (wo := wo) hl1 hj1 h2 h4 hw ⟨by rw [if_pos (by decide), s0], by rw [if_pos (by decide), s1, e0], by rw [if_pos (by decide), s2, ek], by rw [if_pos (by decide), s3, ep], by rw [if_pos (by decide), s4], by rw [if_pos (by decide), s5], by rw [if_pos (by decide), s6, t0], by rw [if_pos (by decide), s7, t2]; rfl⟩ hh ho
  exact ⟨V1, V', y, W', z, e1, F1, f1, f2, kj_t F1 (kj_q f3), f4, f5⟩
theorem clamp_99 {v : Int} (h : 0 ≤ high) : clamp high v = max 0 (min high v) := by unfold clamp; split <;> (try split) <;> omega
/-- COSTS, in both -/
theorem q_cost (h : jd_ok V W jd rk fl lx a) (c0 : 0 ≤ c) (c1 : c < V fl 7 0) (hp : 0 ≤ px ∧ px ≤ 11) (hq : 0 ≤ py ∧ py ≤ 11) : ∃ (V' W' : dV) (y : Int), f_X2_costOf V jd lx fl c px py = (V', y) ∧ f_X12_costsAt W a c px py = (W', y) ∧ kj_fr rk V V' ∧ te_fr a W W' ∧ 0 ≤ y ∧ y ≤ 99 := by
  obtain ⟨h1, h2, h3, h4, h5, h6, h7, h8⟩ := id h
  have e0 := (h6.1 c c0 (by have := h7.1.1; omega)).1
  simp only [kf, Int.zero_add] at e0
  have bs := (h7.1.2.2.2 c c0 c1).1
  obtain ⟨V1, V', y, W', z, e1, F1, f1, f2, f3, f4, f5⟩ := jd_ask (κ := 0) (px := px) (py := py) (high := 99) (wo := V fl 0 c) h c0 c1 (by omega) (by omega) (by decide) (by omega)
  have f2' : f_X12_tells W a 1 c px py 99 (V fl 0 c) = (W', z) := f2
  have eW : f_X12_costsAt W a c px py = (W', z) := by
    unfold f_X12_costsAt
    rw [bq, bq, ← e0, dv_bn2 f2']
  rw [eW]
  unfold f_X2_costOf
  rw [bq, h1, dv_bn2 e1, dv_bn2 f1]
  rcases f5 with ⟨rfl, v, k1, k2, -⟩ | ⟨rfl, k1⟩
  · have vj : V' jd 0 0 = rk := by rw [f3.1 jd 0 0 (fun q => h2 q.1), h1]
    rw [if_neg (by decide), bq, vj, bq, k2 (by decide), bq, bq, ← clamp_99 (by decide), ← k1]
    refine ⟨V', W', z, rfl, rfl, f3, f4, ?_⟩
    rw [k1, clamp_99 (by decide)]; omega
  · have vf : V' fl 0 c = V fl 0 c := f3.1 fl 0 c (fun q => h3 q.1)
    rw [if_pos rfl, bq, vf, k1]
    exact ⟨V', W', _, rfl, rfl, f3, f4, by omega⟩
/-- WEARS -/
theorem q_wear (h : jd_ok V W jd rk fl lx a) (c0 : 0 ≤ c) (c1 : c < V fl 7 0) (hl : V fl 3 c ≠ -1) : ∃ (V' W' : dV) (y : Int), f_X2_wearOf V jd lx fl c = (V', y) ∧ f_X12_wearsNow W a c = (W', y) ∧ kj_fr rk V V' ∧ te_fr a W W' ∧ 0 ≤ y ∧ y ≤ 9 := by
  obtain ⟨h1, h2, h3, h4, h5, h6, h7, h8⟩ := id h
  obtain ⟨-, -, -, ex, ey⟩ := h6.1 c c0 (by have := h7.1.1; omega)
  simp only [kf, Int.zero_add] at ex ey
  have bs := (h7.1.2.2.2 c c0 c1).2.resolve_left hl
  obtain ⟨V1, V', y, W', z, e1, F1, f1, f2, f3, f4, f5⟩ := jd_ask (κ := 1) (high := 9) (wo := 1) (px := V fl 3 c) (py := V fl 4 c) h c0 c1 (by omega) (by omega) (by decide) (by decide)
  have f2' : f_X12_tells W a 2 c (V fl 3 c) (V fl 4 c) 9 1 = (W', z) := f2
  have eW : f_X12_wearsNow W a c = (W', z) := by
    unfold f_X12_wearsNow
    rw [bq, bq, bq, bq, ← ex, ← ey, dv_bn2 f2']
  rw [eW]
  unfold f_X2_wearOf
  rw [bq, bq, bq, h1, dv_bn2 e1, dv_bn2 f1]
  rcases f5 with ⟨rfl, v, k1, k2, -⟩ | ⟨rfl, k1⟩
  · have vj : V' jd 0 0 = rk := by rw [f3.1 jd 0 0 (fun q => h2 q.1), h1]
    rw [if_neg (by decide), bq, vj, bq, k2 (by decide), bq, bq, ← clamp_99 (by decide), ← k1]
    refine ⟨V', W', z, rfl, rfl, f3, f4, ?_⟩
    rw [k1, clamp_99 (by decide)]; omega
  · rw [if_pos rfl, k1]
    exact ⟨V', W', 1, rfl, rfl, f3, f4, by decide⟩
/-- BARRED -/
theorem q_bar (h : jd_ok V W jd rk fl lx a) (c0 : 0 ≤ c) (c1 : c < V fl 7 0) (hp : 0 ≤ px ∧ px ≤ 11) (hq : 0 ≤ py ∧ py ≤ 11) : ∃ (V' W' : dV) (y : Int), f_X2_isBarred V jd lx fl c px py = (V', y) ∧ f_X12_isBarred W a c px py = (W', y) ∧ kj_fr rk V V' ∧ te_fr a W W' ∧ (y = 0 ∨ y = 1) := by
  obtain ⟨h1, h2, -⟩ := id h
  obtain ⟨V1, V', y, W', z, e1, F1, f1, f2, f3, f4, f5⟩ := jd_ask (κ := 2) (px := px) (py := py) (high := 1) (wo := 0) h c0 c1 (by omega) (by omega) (by decide) (by decide)
  have f2' : f_X12_tells W a 3 c px py 1 0 = (W', z) := f2
  unfold f_X2_isBarred f_X12_isBarred
  rw [bq, h1, dv_bn2 e1, dv_bn2 f1, dv_bn2 f2']
  rcases f5 with ⟨rfl, v, k1, -, k2⟩ | ⟨rfl, k1⟩
  · rw [k2 rfl] at k1
    rw [k1, if_neg (by decide)]
    exact ⟨V', W', 1, rfl, rfl, f3, f4, Or.inr rfl⟩
  · rw [k1, if_pos (by decide)]
    exact ⟨V', W', 0, rfl, rfl, f3, f4, Or.inl rfl⟩
end QSJ
end
