section QB
theorem bq {α β : Type} {e : α} {k : α → β} : dv_b e k = k e := congrFun (rfl : dv_b e = fun k : α → β => k e) k
theorem bq2 {α β γ : Type} {p : α × β} {k : α → β → γ} : dv_b2 p k = k p.1 p.2 := congrFun (rfl : dv_b2 p = fun k : α → β → γ => k p.1 p.2) k
theorem qi0 {P : Prop} [Decidable P] {α : Type} {A B : α} : (if (if P then (1 : Int) else 0) = 0 then A else B) = if P then B else A := by
  by_cases h : P
  · rw [if_pos h, if_pos h]; rfl
  · rw [if_neg h, if_neg h]; rfl
theorem qi1 {P : Prop} [Decidable P] {α : Type} {A B : α} : (if (if P then (1 : Int) else 0) ≠ 0 then A else B) = if P then A else B := by
  by_cases h : P
  · rw [if_pos h, if_pos h]; rfl
  · rw [if_neg h, if_neg h]; rfl
theorem qi2 {P : Prop} [Decidable P] {α : Type} {A B : α} : (if (if P then (0 : Int) else 1) = 0 then A else B) = if P then A else B := by
  by_cases h : P
  · rw [if_pos h, if_pos h]; rfl
  · rw [if_neg h, if_neg h]; rfl
theorem qi3 {P : Prop} [Decidable P] {α : Type} {A B : α} : (if (if P then (0 : Int) else 1) ≠ 0 then A else B) = if P then B else A := by
  by_cases h : P
  · rw [if_pos h, if_pos h]; rfl
  · rw [if_neg h, if_neg h]; rfl
theorem dv_bm {n : Int} (h1 : -2147483648 ≤ n) (h2 : n ≤ 2147483647) : n.bmod (2 ^ 32) = n := by
  rw [Int.bmod_eq_of_le] <;> omega
theorem dv_for {σ ρ : Type} [Nonempty ρ] {b : σ → Sum σ ρ} {s : Nat → σ} {n : Nat} {r : ρ} (hs : ∀ i, i < n → b (s i) = .inl (s (i + 1))) (he : b (s n) = .inr r) : dv_lp b (s 0) = r := by
  have h : ∀ k i, i + k = n → dv_lp b (s i) = r := by
    intro k
    induction k with
    | zero => intro i hi; rw [show i = n by omega]; exact dv_lp_e he
    | succ k ih => intro i hi; rw [dv_lp_s (hs i (by omega))]; exact ih (i + 1) (by omega)
  exact h n 0 (by omega)
theorem dv_for2 {σ ρ : Type} [Nonempty ρ] {b : σ → Sum σ ρ} {s : Nat → σ} {s0 : σ} {n : Nat} {r : ρ} (h0 : s0 = s 0) (hs : ∀ i, i < n → b (s i) = .inl (s (i + 1))) (he : b (s n) = .inr r) : dv_lp b s0 = r := by
  rw [h0]; exact dv_for hs he
theorem dv_ofInt {n : Int} (h0 : -2147483648 ≤ n) (h1 : n ≤ 2147483647) : (Int32.ofInt n).toInt = n := by
  rw [Int32.toInt_ofInt]; exact dv_bm h0 h1
theorem dv_add_ok {a b : Int} (h0 : -2147483648 ≤ a + b) (h1 : a + b ≤ 2147483647) (a0 : -2147483648 ≤ a) (a1 : a ≤ 2147483647) (b0 : -2147483648 ≤ b) (b1 : b ≤ 2147483647) : dv_add a b = a + b := by
  unfold dv_add
  rw [Int32.toInt_add, dv_ofInt a0 a1, dv_ofInt b0 b1]; exact dv_bm h0 h1
theorem dv_sub_ok {a b : Int} (h0 : -2147483648 ≤ a - b) (h1 : a - b ≤ 2147483647) (a0 : -2147483648 ≤ a) (a1 : a ≤ 2147483647) (b0 : -2147483648 ≤ b) (b1 : b ≤ 2147483647) : dv_sub a b = a - b := by
  unfold dv_sub
  rw [Int32.toInt_sub, dv_ofInt a0 a1, dv_ofInt b0 b1]; exact dv_bm h0 h1
/-- sums over the first n -/
def qs (f : Nat → Int) : Nat → Int
  | 0 => 0
  | n + 1 => qs f n + f n
theorem qs_c {f g : Nat → Int} {n : Nat} (h : ∀ i, i < n → f i = g i) : qs f n = qs g n := by
  induction n with
  | zero => rfl
  | succ n ih => unfold qs; rw [ih (fun i hi => h i (by omega)), h n (by omega)]
theorem qs_b {f : Nat → Int} {n : Nat} {k : Int} (h : ∀ i, i < n → 0 ≤ f i ∧ f i ≤ k) : 0 ≤ qs f n ∧ qs f n ≤ k * n := by
  induction n with
  | zero => unfold qs; omega
  | succ n ih =>
    unfold qs
    have h1 := ih (fun i hi => h i (by omega))
    have h2 := h n (by omega)
    rw [Int.natCast_succ, Int.mul_add]
    omega
end QB
section QF
variable {V : dV} {a c : Int}
theorem q_has : f_X1_has V a c = (if 0 ≤ c ∧ c < V a 7 0 then 1 else 0, ()) := by
  unfold f_X1_has
  simp only [bq]
  split
  · rw [if_neg (by omega)]
  · split
    · rw [if_neg (by omega)]
    · rw [if_pos (by omega)]
theorem q_isLaid : f_X1_isLaid V a c = (if 0 ≤ c ∧ c < V a 7 0 ∧ V a 3 c ≠ -1 then 1 else 0, ()) := by
  unfold f_X1_isLaid
  simp only [bq, bq2, q_has, qi0, qi1, qi2, qi3]
  by_cases h : 0 ≤ c ∧ c < V a 7 0
  · rw [if_pos h]
    by_cases h1 : V a 3 c = -1
    · rw [if_pos h1, if_neg (by omega)]
    · rw [if_neg h1, if_pos (by omega)]
  · rw [if_neg h, if_neg (by omega)]
theorem q_isReady : f_X1_isReady V a c = (if (0 ≤ c ∧ c < V a 7 0) ∧ V a 3 c = -1 ∧ 0 < V a 2 c then 1 else 0, ()) := by
  unfold f_X1_isReady
  simp only [bq, bq2, q_has, qi0, qi1, qi2, qi3]
  by_cases h : 0 ≤ c ∧ c < V a 7 0
  · rw [if_pos h]
    by_cases h1 : V a 3 c = -1
    · rw [if_neg (by omega)]
      by_cases h2 : 0 < V a 2 c
      · simp [h, h1, h2]
      · simp [h, h1, h2]
    · rw [if_pos h1, if_neg (by omega)]
  · rw [if_neg h, if_neg (by omega)]
theorem q_laidCarpets (h0 : 0 ≤ V a 7 0) (h9 : V a 7 0 ≤ 9) : f_X1_laidCarpets V a = (qs (fun i => if V a 3 (i : Int) ≠ -1 then 1 else 0) (V a 7 0).toNat, ()) := by
  unfold f_X1_laidCarpets
  refine dv_for2 (s := fun i => (V, a, qs (fun i => if V a 3 (i : Int) ≠ -1 then 1 else 0) i, (i : Int))) (n := (V a 7 0).toNat) rfl (fun i hi => ?_) ?_
  · have hb := qs_b (f := fun i : Nat => if V a 3 (i : Int) ≠ -1 then (1 : Int) else 0) (n := i) (k := 1) (fun i _ => by split <;> omega)
    simp only [f_X1_laidCarpets_4e, f_X1_laidCarpets_4c, f_X1_laidCarpets_26, bq, bq2, q_isLaid, qi0, qi1, qi2, qi3]
    rw [if_neg (by omega)]
    by_cases h : V a 3 (i : Int) ≠ -1
    · rw [if_pos ⟨by omega, by omega, h⟩, dv_add_ok (by omega) (by omega) (by omega) (by omega) (by omega) (by omega)]
      simp only [qs, if_pos h]
      rfl
    · rw [if_neg (by omega), dv_add_ok (by omega) (by omega) (by omega) (by omega) (by omega) (by omega)]
      simp only [qs, if_neg h]
      rfl
  · simp only [f_X1_laidCarpets_4e, f_X1_laidCarpets_4c, bq]
    rw [if_pos (by omega)]
end QF
section QM
variable {V : dV} {a c x y z : Int}
theorem q_lies : f_X12_lies V x y z = (if y ≤ x ∧ x ≤ z then 1 else 0, ()) := by
  unfold f_X12_lies
  by_cases h : x < y
  · rw [if_pos h, if_neg (by omega)]
  · rw [if_neg h]
    by_cases h1 : z < x
    · rw [if_pos h1, if_neg (by omega)]
    · rw [if_neg h1, if_pos (by omega)]
theorem q_lesser : f_X12_lesser V x y = (min x y, ()) := by
  unfold f_X12_lesser
  split <;> (congr 1; omega)
theorem q_greater : f_X12_greater V x y = (max x y, ()) := by
  unfold f_X12_greater
  split <;> (congr 1; omega)
theorem q_isSide : f_X12_isSide V x = (if 1 ≤ x ∧ x ≤ 12 then 1 else 0, ()) := by
  unfold f_X12_isSide
  simp only [bq2, q_lies, qi0, qi1, qi2, qi3]
theorem q_isAlong : f_X12_isAlong V x = (if 0 ≤ x ∧ x ≤ 11 then 1 else 0, ()) := by
  unfold f_X12_isAlong
  simp only [bq2, q_lies, qi0, qi1, qi2, qi3]
theorem q_canBe : f_X12_canBe V x y z = (if (1 ≤ x ∧ x ≤ 12) ∧ (0 ≤ y ∧ y ≤ 3) ∧ 0 ≤ z ∧ z ≤ 9 then 1 else 0, ()) := by
  unfold f_X12_canBe
  simp only [bq2, q_lies, q_isSide, qi0, qi1, qi2, qi3]
  by_cases h : 1 ≤ x ∧ x ≤ 12 <;> by_cases h1 : 0 ≤ y ∧ y ≤ 3 <;> by_cases h2 : 0 ≤ z ∧ z ≤ 9 <;> simp [h, h1, h2]
theorem q_many : f_X12_many V a = (V a 2 69, ()) := by
  unfold f_X12_many
  simp only [bq]
theorem q_isCarpet : f_X12_isCarpet V a c = (if 0 ≤ c ∧ c < V a 2 69 then 1 else 0, ()) := by
  unfold f_X12_isCarpet
  simp only [bq, bq2, q_lies, q_many, qi0, qi1, qi2, qi3]
  congr 1
  by_cases h : 0 ≤ c ∧ c < V a 2 69
  · rw [if_pos h, if_pos (by omega)]
  · rw [if_neg h, if_neg (by omega)]
theorem q_mLaid : f_X12_isLaid V a c = (if V a 2 (9 + c) = -1 then 0 else 1, ()) := by
  unfold f_X12_isLaid
  simp only [bq]
  split <;> rfl
theorem q_mWhole : f_X12_isWhole V a c = (if 0 < V a 2 c then 1 else 0, ()) := by
  unfold f_X12_isWhole
  simp only [bq, Int.zero_add]
  by_cases h : 0 < V a 2 c
  · rw [if_neg (by omega), if_pos h]
  · rw [if_pos (by omega), if_neg h]
theorem q_isLaw : f_X12_isLaw V a c = (if -1 ≤ c ∧ c < V a 2 71 then 1 else 0, ()) := by
  unfold f_X12_isLaw
  simp only [bq, bq2, q_lies, qi0, qi1, qi2, qi3]
  congr 1
  by_cases h : -1 ≤ c ∧ c < V a 2 71
  · rw [if_pos h, if_pos (by omega)]
  · rw [if_neg h, if_neg (by omega)]
theorem q_laidMany : f_X12_laidMany V a = (qs (fun i => if V a 2 (9 + (i : Int)) = -1 then 0 else 1) (V a 2 69).toNat, ()) := by
  unfold f_X12_laidMany
  refine dv_for2 (s := fun i => (V, a, qs (fun i => if V a 2 (9 + (i : Int)) = -1 then 0 else 1) i, (i : Int))) (n := (V a 2 69).toNat) rfl (fun i hi => ?_) ?_
  · simp only [f_X12_laidMany_4e, f_X12_laidMany_4c, bq, bq2, q_many, q_mLaid, qi0, qi1, qi2, qi3]
    rw [if_neg (by omega)]
    by_cases h : V a 2 (9 + (i : Int)) = -1
    · rw [if_pos h]
      simp only [qs, if_pos h]
      rfl
    · rw [if_neg h]
      simp only [qs, if_neg h]
      rfl
  · simp only [f_X12_laidMany_4e, f_X12_laidMany_4c, bq, bq2, q_many]
    rw [if_pos (show V a 2 69 ≤ ((V a 2 69).toNat : Int) by omega)]
end QM
section QI
theorem dv_inv {σ ρ : Type} [Nonempty ρ] {b : σ → Sum σ ρ} (P : σ → Prop) (Q : ρ → Prop) (m : σ → Nat) (h : ∀ s, P s → (∃ t, b s = .inl t ∧ P t ∧ m t < m s) ∨ ∃ r, b s = .inr r ∧ Q r) : ∀ s, P s → Q (dv_lp b s) := by
  have h1 : ∀ k s, m s < k → P s → Q (dv_lp b s) := by
    intro k
    induction k with
    | zero => intro s hs; exact absurd hs (by omega)
    | succ k ih =>
      intro s hs hp
      rcases h s hp with ⟨t, e, ht, hm⟩ | ⟨r, e, hr⟩
      · rw [dv_lp_s e]; exact ih t (by omega) ht
      · rw [dv_lp_e e]; exact hr
  exact fun s hp => h1 (m s + 1) s (by omega) hp
theorem qm_b {x y a b : Int} (h0 : 0 ≤ x) (h1 : x ≤ a) (h2 : 0 ≤ y) (h3 : y ≤ b) : 0 ≤ x * y ∧ x * y ≤ a * b := ⟨Int.mul_nonneg h0 h2, Int.mul_le_mul h1 h3 h2 (by omega)⟩
end QI
section QF2
variable {V : dV} {a c px py : Int}
/-- the numbers of a floor that are bounded -/
def fb (φ : Nat → Int → Int) : Prop := (0 ≤ φ 7 0 ∧ φ 7 0 ≤ 9) ∧ (0 ≤ φ 8 0 ∧ φ 8 0 ≤ 12) ∧ (0 ≤ φ 9 0 ∧ φ 9 0 ≤ 12) ∧ ∀ c, 0 ≤ c → c < φ 7 0 → (0 ≤ φ 0 c ∧ φ 0 c ≤ 12) ∧ (φ 3 c = -1 ∨ (0 ≤ φ 3 c ∧ φ 3 c ≤ 12 ∧ 0 ≤ φ 4 c ∧ φ 4 c ≤ 12))
def sqf (φ : Nat → Int → Int) (i : Nat) : Int := if φ 3 (i : Int) = -1 then 0 else φ 0 (i : Int) * φ 0 (i : Int)
theorem sqf_b {φ : Nat → Int → Int} (h : fb φ) {i : Nat} (hi : (i : Int) < φ 7 0) : 0 ≤ sqf φ i ∧ sqf φ i ≤ 144 := by
  unfold sqf
  have h1 := (h.2.2.2 (i : Int) (by omega) hi).1
  have h2 := qm_b h1.1 h1.2 h1.1 h1.2
  split <;> omega
theorem q_bare_e {x : Int} (h : 0 ≤ V a 7 0) : f_X1_bareCells_12b (V, a, x, (((V a 7 0).toNat : Nat) : Int)) = .inr (x, ()) := by
  rw [f_X1_bareCells_12e]
  unfold f_X1_bareCells_12c
  simp only [bq]
  rw [if_pos (by omega)]
theorem q_bareCells (h : fb (V a)) : f_X1_bareCells V a = (V a 8 0 * V a 9 0 - qs (sqf (V a)) (V a 7 0).toNat, ()) := by
  have hw := qm_b h.2.1.1 h.2.1.2 h.2.2.1.1 h.2.2.1.2
  have hn := h.1
  unfold f_X1_bareCells
  simp only [bq]
  refine dv_for2 (s := fun i => (V, a, V a 8 0 * V a 9 0 - qs (sqf (V a)) i, (i : Int))) (n := (V a 7 0).toNat) (by simp [qs]) (fun i hi => ?_) ?_
  · have hb := qs_b (f := sqf (V a)) (n := i) (k := 144) (fun j hj => sqf_b h (by omega))
    have hc := sqf_b h (i := i) (by omega)
    simp only [f_X1_bareCells_12e, f_X1_bareCells_12c, f_X1_bareCells_46, bq, bq2, q_isLaid, qi0, qi1, qi2, qi3]
    rw [if_neg (by omega)]
    by_cases h3 : V a 3 (i : Int) = -1
    · rw [if_neg (by omega), dv_sub_ok (by omega) (by omega) (by omega) (by omega) (by omega) (by omega)]
      have e : sqf (V a) i = 0 := by unfold sqf; rw [if_pos h3]
      have e2 : qs (sqf (V a)) (i + 1) = qs (sqf (V a)) i := by rw [qs, e, Int.add_zero]
      rw [e2, Int.sub_zero, Int.natCast_succ]
    · have e : sqf (V a) i = V a 0 (i : Int) * V a 0 (i : Int) := by unfold sqf; rw [if_neg h3]
      rw [if_pos ⟨by omega, by omega, h3⟩, dv_sub_ok (by omega) (by omega) (by omega) (by omega) (by omega) (by omega)]
      have e2 : qs (sqf (V a)) (i + 1) = qs (sqf (V a)) i + V a 0 (i : Int) * V a 0 (i : Int) := by rw [qs, e]
      rw [e2, Int.sub_sub, Int.natCast_succ]
  · exact q_bare_e hn.1
theorem q_rags (h : fb (V a)) : f_X1_rags V a = (qs (fun i => if V a 2 (i : Int) = 0 then 1 else 0) (V a 7 0).toNat, ()) := by
  have hn := h.1
  unfold f_X1_rags
  refine dv_for2 (s := fun i => (V, a, qs (fun i => if V a 2 (i : Int) = 0 then 1 else 0) i, (i : Int))) (n := (V a 7 0).toNat) rfl (fun i hi => ?_) ?_
  · have hb := qs_b (f := fun i : Nat => if V a 2 (i : Int) = 0 then (1 : Int) else 0) (n := i) (k := 1) (fun i _ => by split <;> omega)
    simp only [f_X1_rags_4e, f_X1_rags_4c, f_X1_rags_27, bq]
    rw [if_neg (by omega)]
    by_cases h3 : V a 2 (i : Int) = 0
    · rw [if_neg (by omega), dv_add_ok (by omega) (by omega) (by omega) (by omega) (by omega) (by omega)]
      simp only [qs, if_pos h3]
      rfl
    · rw [if_pos h3, dv_add_ok (by omega) (by omega) (by omega) (by omega) (by omega) (by omega)]
      simp only [qs, if_neg h3]
      rfl
  · simp only [f_X1_rags_4e, f_X1_rags_4c, bq]
    rw [if_pos (by omega)]
/-- whether the carpet covers the cell -/
def cov (φ : Nat → Int → Int) (c px py : Int) : Prop := φ 3 c ≠ -1 ∧ φ 3 c ≤ px ∧ px < φ 3 c + φ 0 c ∧ φ 4 c ≤ py ∧ py < φ 4 c + φ 0 c
theorem q_carpetOn (h : fb (V a)) : ∃ r : Int, f_X1_carpetOn V a px py = (r, ()) ∧ ((r = -1 ∧ ∀ c, 0 ≤ c → c < V a 7 0 → ¬ cov (V a) c px py) ∨ (0 ≤ r ∧ r < V a 7 0 ∧ cov (V a) r px py)) := by
  have hn := h.1
  unfold f_X1_carpetOn
  refine dv_inv (P := fun s => ∃ j : Int, s = (V, a, px, py, j) ∧ 0 ≤ j ∧ j ≤ V a 7 0 ∧ ∀ c, 0 ≤ c → c < j → ¬ cov (V a) c px py) (Q := fun q => ∃ r : Int, q = (r, ()) ∧ ((r = -1 ∧ ∀ c, 0 ≤ c → c < V a 7 0 → ¬ cov (V a) c px py) ∨ (0 ≤ r ∧ r < V a 7 0 ∧ cov (V a) r px py))) (m := fun s => (V a 7 0 - s.2.2.2.2).toNat) ?_ _ ⟨0, rfl, by omega, by omega, fun c h0 h1 => by omega⟩
  rintro s ⟨j, rfl, j0, j9, hj⟩
  simp only [f_X1_carpetOn_2e, f_X1_carpetOn_2c, f_X1_carpetOn_74, bq, bq2, q_isLaid, qi0, qi1, qi2, qi3]
  by_cases e : V a 7 0 ≤ j
  · rw [if_pos e]
    exact Or.inr ⟨_, rfl, -1, rfl, Or.inl ⟨rfl, fun c h0 h1 => hj c h0 (by omega)⟩⟩
  · rw [if_neg e]
    have hc := h.2.2.2 j j0 (by omega)
    by_cases h3 : V a 3 j = -1
    · rw [if_neg (by omega)]
      refine Or.inl ⟨_, rfl, ⟨j + 1, rfl, by omega, by omega, fun c h0 h1 w => ?_⟩, by dsimp only; omega⟩
      by_cases w1 : c = j
      · subst w1; exact w.1 h3
      · exact hj c h0 (by omega) w
    · have hp := hc.2.resolve_left h3
      rw [if_pos ⟨by omega, by omega, h3⟩, dv_add_ok (by omega) (by omega) (by omega) (by omega) (by omega) (by omega), dv_add_ok (by omega) (by omega) (by omega) (by omega) (by omega) (by omega)]
      by_cases w : cov (V a) j px py
      · obtain ⟨w0, w1, w2, w3, w4⟩ := w
        rw [if_neg (by omega), if_neg (by omega), if_neg (by omega), if_neg (by omega)]
        exact Or.inr ⟨_, rfl, j, rfl, Or.inr ⟨j0, by omega, w0, w1, w2, w3, w4⟩⟩
      · have hx : (if px < V a 3 j then (Sum.inl (V, a, px, py, j + 1) : Sum (dV × Int × Int × Int × Int) dP) else if V a 3 j + V a 0 j ≤ px then Sum.inl (V, a, px, py, j + 1) else if py < V a 4 j then Sum.inl (V, a, px, py, j + 1) else if V a 4 j + V a 0 j ≤ py then Sum.inl (V, a, px, py, j + 1) else Sum.inr (j, ())) = Sum.inl (V, a, px, py, j + 1) := by
          split
          · rfl
          · split
            · rfl
            · split
              · rfl
              · split
                · rfl
                · exact absurd ⟨h3, by omega, by omega, by omega, by omega⟩ w
        rw [hx]
        refine Or.inl ⟨_, rfl, ⟨j + 1, rfl, by omega, by omega, fun c h0 h1 w9 => ?_⟩, by dsimp only; omega⟩
        by_cases w1 : c = j
        · subst w1; exact w w9
        · exact hj c h0 (by omega) w9
end QF2
section QK
/-- the floor that a kept row tells from its place b on -/
def kf (K : Int → Int) (b : Int) : Nat → Int → Int := fun j c => match j with
  | 0 => K (b + (29 + c))
  | 1 => K (b + (38 + c))
  | 2 => K (b + c)
  | 3 => K (b + (9 + c))
  | 4 => K (b + (18 + c))
  | 5 => if c = 0 then K (b + 28) else K (b + (64 + c))
  | 7 => K (b + 69)
  | 8 => K (b + 67)
  | 9 => K (b + 68)
  | 10 => K (b + 27)
  | _ => 0
/-- two floors that tell the same -/
def ef (φ ψ : Nat → Int → Int) : Prop := (∀ c, 0 ≤ c → c < 9 → φ 0 c = ψ 0 c ∧ φ 1 c = ψ 1 c ∧ φ 2 c = ψ 2 c ∧ φ 3 c = ψ 3 c ∧ φ 4 c = ψ 4 c) ∧ (φ 5 0 = ψ 5 0 ∧ φ 5 1 = ψ 5 1 ∧ φ 5 2 = ψ 5 2) ∧ φ 7 0 = ψ 7 0 ∧ φ 8 0 = ψ 8 0 ∧ φ 9 0 = ψ 9 0 ∧ φ 10 0 = ψ 10 0
variable {φ ψ : Nat → Int → Int} {V : dV} {a c px py : Int}
theorem ef_fb (e : ef φ ψ) (h : fb φ) : fb ψ := by
  obtain ⟨e1, -, e7, e8, e9, -⟩ := e
  obtain ⟨h7, h8, h9, h1⟩ := h
  refine ⟨by omega, by omega, by omega, fun c c0 c1 => ?_⟩
  have := e1 c c0 (by omega)
  have := h1 c c0 (by omega)
  omega
theorem ef_sqf (e : ef φ ψ) (h : fb φ) : qs (sqf φ) (φ 7 0).toNat = qs (sqf ψ) (ψ 7 0).toNat := by
  rw [← e.2.2.1]
  refine qs_c fun i hi => ?_
  have h7 := h.1
  obtain ⟨e0, -, -, e3, -⟩ := e.1 (i : Int) (by omega) (by omega)
  unfold sqf
  rw [e0, e3]
theorem ef_rag (e : ef φ ψ) (h : fb φ) : qs (fun i => if φ 2 (i : Int) = 0 then 1 else 0) (φ 7 0).toNat = qs (fun i => if ψ 2 (i : Int) = 0 then 1 else 0) (ψ 7 0).toNat := by
  rw [← e.2.2.1]
  refine qs_c fun i hi => ?_
  have h7 := h.1
  rw [(e.1 (i : Int) (by omega) (by omega)).2.2.1]
theorem ef_laid (e : ef φ ψ) (h : fb φ) : qs (fun i => if φ 3 (i : Int) ≠ -1 then 1 else 0) (φ 7 0).toNat = qs (fun i => if ψ 3 (i : Int) ≠ -1 then 1 else 0) (ψ 7 0).toNat := by
  rw [← e.2.2.1]
  refine qs_c fun i hi => ?_
  have h7 := h.1
  rw [(e.1 (i : Int) (by omega) (by omega)).2.2.2.1]
theorem q_laidMany2 : f_X12_laidMany V a = (qs (fun i => if kf (V a 2) 0 3 (i : Int) ≠ -1 then 1 else 0) (kf (V a 2) 0 7 0).toNat, ()) := by
  rw [q_laidMany]
  congr 1
  simp only [kf, Int.zero_add]
  refine qs_c fun i _ => ?_
  by_cases h : V a 2 (9 + (i : Int)) = -1
  · rw [if_pos h, if_neg (fun q => q h)]
  · rw [if_neg h, if_pos h]
theorem q_bareMany : f_X12_bareMany V a = (kf (V a 2) 0 8 0 * kf (V a 2) 0 9 0 - qs (sqf (kf (V a 2) 0)) (kf (V a 2) 0 7 0).toNat, ()) := by
  unfold f_X12_bareMany
  simp only [bq, kf, Int.zero_add]
  refine dv_for2 (s := fun i => (V, a, V a 2 67 * V a 2 68 - qs (sqf (kf (V a 2) 0)) i, (i : Int))) (n := (V a 2 69).toNat) (by simp [qs]) (fun i hi => ?_) ?_
  · simp only [f_X12_bareMany_18e, f_X12_bareMany_18c, bq, bq2, q_many, q_mLaid, qi0, qi1, qi2, qi3]
    rw [if_neg (by omega)]
    by_cases h3 : V a 2 (9 + (i : Int)) = -1
    · rw [if_pos h3]
      simp only [qs]
      have e : sqf (kf (V a 2) 0) i = 0 := by unfold sqf; simp only [kf, Int.zero_add]; rw [if_pos h3]
      rw [e, Int.add_zero, Int.sub_zero]
      rfl
    · have e : sqf (kf (V a 2) 0) i = V a 2 (29 + (i : Int)) * V a 2 (29 + (i : Int)) := by unfold sqf; simp only [kf, Int.zero_add]; rw [if_neg h3]
      rw [if_neg h3]
      simp only [qs]
      rw [e, Int.sub_sub]
      rfl
  · simp only [f_X12_bareMany_18e, f_X12_bareMany_18c, bq, bq2, q_many]
    rw [if_pos (by omega)]
theorem q_ragMany (h : fb (kf (V a 2) 0)) (hp : ∀ c, 0 ≤ c → c < V a 2 69 → 0 ≤ V a 2 c) : f_X12_ragMany V a = (qs (fun i => if kf (V a 2) 0 2 (i : Int) = 0 then 1 else 0) (kf (V a 2) 0 7 0).toNat, ()) := by
  have hn : 0 ≤ V a 2 69 ∧ V a 2 69 ≤ 9 := by have := h.1; simp only [kf, Int.zero_add] at this; exact this
  unfold f_X12_ragMany
  simp only [kf, Int.zero_add]
  refine dv_for2 (s := fun i => (V, a, qs (fun i => if V a 2 (i : Int) = 0 then 1 else 0) i, (i : Int))) (n := (V a 2 69).toNat) rfl (fun i hi => ?_) ?_
  · have hb := qs_b (f := fun i : Nat => if V a 2 (i : Int) = 0 then (1 : Int) else 0) (n := i) (k := 1) (fun i _ => by split <;> omega)
    have h0 := hp (i : Int) (by omega) (by omega)
    simp only [f_X12_ragMany_4e, f_X12_ragMany_4c, f_X12_ragMany_26, bq, bq2, q_many, q_mWhole, qi0, qi1, qi2, qi3]
    rw [if_neg (by omega)]
    by_cases h3 : V a 2 (i : Int) = 0
    · rw [if_neg (show ¬ 0 < V a 2 (i : Int) by omega), dv_add_ok (by omega) (by omega) (by omega) (by omega) (by omega) (by omega)]
      simp only [qs, if_pos h3]
      rfl
    · rw [if_pos (show 0 < V a 2 (i : Int) by omega), dv_add_ok (by omega) (by omega) (by omega) (by omega) (by omega) (by omega)]
      simp only [qs, if_neg h3]
      rfl
  · simp only [f_X12_ragMany_4e, f_X12_ragMany_4c, bq, bq2, q_many]
    rw [if_pos (by omega)]
theorem q_covers (h : fb (kf (V a 2) 0)) (c0 : 0 ≤ c) (c1 : c < V a 2 69) : ∃ r : Int, f_X12_covers V a c px py = (r, ()) ∧ (r = 1 ∧ cov (kf (V a 2) 0) c px py ∨ r = 0 ∧ ¬ cov (kf (V a 2) 0) c px py) := by
  have hc := h.2.2.2 c c0 (by simp only [kf, Int.zero_add]; exact c1)
  simp only [kf, Int.zero_add] at hc
  unfold f_X12_covers cov
  simp only [bq, bq2, q_mLaid, q_lies, kf, Int.zero_add, qi0, qi1, qi2, qi3]
  by_cases h3 : V a 2 (9 + c) = -1
  · rw [if_pos h3]
    exact ⟨0, rfl, Or.inr ⟨rfl, fun w => w.1 h3⟩⟩
  · have hp := hc.2.resolve_left h3
    rw [if_neg h3, dv_add_ok (by omega) (by omega) (by omega) (by omega) (by omega) (by omega), dv_sub_ok (by omega) (by omega) (by omega) (by omega) (by omega) (by omega), dv_add_ok (by omega) (by omega) (by omega) (by omega) (by omega) (by omega), dv_sub_ok (by omega) (by omega) (by omega) (by omega) (by omega) (by omega)]
    by_cases w1 : V a 2 (9 + c) ≤ px ∧ px ≤ V a 2 (9 + c) + V a 2 (29 + c) - 1
    · rw [if_pos w1]
      by_cases w2 : V a 2 (18 + c) ≤ py ∧ py ≤ V a 2 (18 + c) + V a 2 (29 + c) - 1
      · rw [if_pos w2]
        exact ⟨1, rfl, Or.inl ⟨rfl, h3, by omega, by omega, by omega, by omega⟩⟩
      · rw [if_neg w2]
        exact ⟨0, rfl, Or.inr ⟨rfl, fun w => w2 (by omega)⟩⟩
    · rw [if_neg w1]
      exact ⟨0, rfl, Or.inr ⟨rfl, fun w => w1 (by omega)⟩⟩
theorem q_at (h : fb (kf (V a 2) 0)) : ∃ r : Int, f_X12_at V a px py = (r, ()) ∧ ((r = -1 ∧ ∀ c, 0 ≤ c → c < V a 2 69 → ¬ cov (kf (V a 2) 0) c px py) ∨ (0 ≤ r ∧ r < V a 2 69 ∧ cov (kf (V a 2) 0) r px py)) := by
  have hn : 0 ≤ V a 2 69 ∧ V a 2 69 ≤ 9 := by have := h.1; simp only [kf, Int.zero_add] at this; exact this
  unfold f_X12_at
  refine dv_inv (P := fun s => ∃ r j : Int, s = (V, a, px, py, r, j) ∧ 0 ≤ j ∧ j ≤ V a 2 69 ∧ ((r = -1 ∧ ∀ c, 0 ≤ c → c < j → ¬ cov (kf (V a 2) 0) c px py) ∨ (0 ≤ r ∧ r < V a 2 69 ∧ cov (kf (V a 2) 0) r px py))) (Q := fun q => ∃ r : Int, q = (r, ()) ∧ ((r = -1 ∧ ∀ c, 0 ≤ c → c < V a 2 69 → ¬ cov (kf (V a 2) 0) c px py) ∨ (0 ≤ r ∧ r < V a 2 69 ∧ cov (kf (V a 2) 0) r px py))) (m := fun s => (V a 2 69 - s.2.2.2.2.2).toNat) ?_ _ ⟨-1, 0, rfl, by omega, by omega, Or.inl ⟨rfl, fun c h0 h1 => by omega⟩⟩
  rintro s ⟨r, j, rfl, j0, j9, hj⟩
  simp only [f_X12_at_5e, f_X12_at_5c, f_X12_at_31, bq, bq2, q_many]
  by_cases e : V a 2 69 ≤ j
  · rw [if_pos e]
    refine Or.inr ⟨_, rfl, r, rfl, ?_⟩
    rw [show V a 2 69 = j by omega] at hj ⊢
    exact hj
  · rw [if_neg e]
    obtain ⟨x, hx, hy⟩ := q_covers (px := px) (py := py) h j0 (by omega)
    rw [hx]
    rcases hy with ⟨rfl, hy⟩ | ⟨rfl, hy⟩
    · rw [if_neg (by decide)]
      exact Or.inl ⟨_, rfl, ⟨j, j + 1, rfl, by omega, by omega, Or.inr ⟨j0, by omega, hy⟩⟩, by dsimp only; omega⟩
    · rw [if_pos rfl]
      refine Or.inl ⟨_, rfl, ⟨r, j + 1, rfl, by omega, by omega, ?_⟩, by dsimp only; omega⟩
      rcases hj with ⟨h1, h2⟩ | h1
      · refine Or.inl ⟨h1, fun c k0 k1 w => ?_⟩
        by_cases w1 : c = j
        · subst w1; exact hy w
        · exact h2 c k0 (by omega) w
      · exact Or.inr h1
/-- no two carpets cover one cell -/
def dj (φ : Nat → Int → Int) : Prop := ∀ c d px py, 0 ≤ c → c < φ 7 0 → 0 ≤ d → d < φ 7 0 → cov φ c px py → cov φ d px py → c = d
theorem ef_cov (e : ef φ ψ) (c0 : 0 ≤ c) (c1 : c < 9) : cov φ c px py ↔ cov ψ c px py := by
  obtain ⟨e0, -, -, e3, e4⟩ := e.1 c c0 c1
  unfold cov
  rw [e0, e3, e4]
theorem q_at_eq {A B : Int} (e : ef (V A) (kf (V B 2) 0)) (h : fb (V A)) (hd : dj (V A)) : f_X1_carpetOn V A px py = f_X12_at V B px py := by
  have h2 := ef_fb e h
  obtain ⟨r, e1, h1⟩ := q_carpetOn (px := px) (py := py) h
  obtain ⟨r', e1', h1'⟩ := q_at (px := px) (py := py) h2
  have e7 : V A 7 0 = V B 2 69 := by have := e.2.2.1; simp only [kf, Int.zero_add] at this; exact this
  have hn := h.1
  rw [e1, e1']
  congr 1
  rcases h1 with ⟨rfl, k1⟩ | ⟨a0, a1, a2⟩
  · rcases h1' with ⟨rfl, -⟩ | ⟨b0, b1, b2⟩
    · rfl
    · exact absurd ((ef_cov e b0 (by omega)).mpr b2) (k1 r' b0 (by omega))
  · rcases h1' with ⟨rfl, k1⟩ | ⟨b0, b1, b2⟩
    · exact absurd ((ef_cov e a0 (by omega)).mp a2) (k1 r a0 (by omega))
    · exact hd r r' px py a0 (by omega) b0 (by omega) a2 ((ef_cov e b0 (by omega)).mpr b2)
end QK
section QBIT
/-- bit i of a number of 32 bits -/
def qb (m : Int) (i : Nat) : Bool := (Int32.ofInt m).toBitVec.getLsbD i
theorem qb_and {a b : Int} {i : Nat} : qb (dv_and a b) i = (qb a i && qb b i) := by
  unfold qb dv_and
  rw [Int32.ofInt_toInt, Int32.toBitVec_and, BitVec.getLsbD_and]
theorem qb_or {a b : Int} {i : Nat} : qb (dv_or a b) i = (qb a i || qb b i) := by
  unfold qb dv_or
  rw [Int32.ofInt_toInt, Int32.toBitVec_or, BitVec.getLsbD_or]
theorem qb_xor {a b : Int} {i : Nat} : qb (dv_xor a b) i = (qb a i ^^ qb b i) := by
  unfold qb dv_xor
  rw [Int32.ofInt_toInt, Int32.toBitVec_xor, BitVec.getLsbD_xor]
theorem qb_0 {i : Nat} : qb 0 i = false := by
  unfold qb
  rw [show Int32.ofInt 0 = 0 from rfl]
  simp
theorem qb_and0 {a b : Int} : dv_and a b = 0 ↔ ∀ i, i < 32 → ¬ (qb a i = true ∧ qb b i = true) := by
  constructor
  · intro h i hi w
    have h1 : qb (dv_and a b) i = false := by rw [h]; exact qb_0
    rw [qb_and, w.1, w.2] at h1
    cases h1
  · intro h
    have h1 : (Int32.ofInt a &&& Int32.ofInt b) = 0 := by
      apply Int32.toBitVec_inj.mp
      apply BitVec.eq_of_getLsbD_eq
      intro i hi
      have h2 := h i hi
      have h3 : (Int32.ofInt a &&& Int32.ofInt b).toBitVec.getLsbD i = (qb a i && qb b i) := by
        rw [Int32.toBitVec_and, BitVec.getLsbD_and]
        rfl
      rw [h3]
      cases ha : qb a i <;> cases hb : qb b i <;> simp_all
    unfold dv_and
    rw [h1]
    rfl
/-- the bits of a row that a square of side s covers from x on -/
def mk (s x : Int) : Int := dv_shl (dv_sub (dv_shl 1 s) 1) x
theorem mk_all : ∀ s : Fin 13, ∀ x : Fin 13, ∀ i : Fin 32, qb (mk (s.1 : Int) (x.1 : Int)) i.1 = decide (x.1 ≤ i.1 ∧ i.1 < x.1 + s.1) := by decide +kernel
theorem qb_mk {s x : Int} {i : Nat} (s0 : 0 ≤ s) (s1 : s ≤ 12) (x0 : 0 ≤ x) (x1 : x ≤ 12) (hi : i < 32) : qb (mk s x) i = true ↔ x ≤ (i : Int) ∧ (i : Int) < x + s := by
  have h := mk_all ⟨s.toNat, by omega⟩ ⟨x.toNat, by omega⟩ ⟨i, hi⟩
  simp only [show ((s.toNat : Nat) : Int) = s by omega, show ((x.toNat : Nat) : Int) = x by omega] at h
  rw [h]
  simp only [decide_eq_true_eq]
  omega
end QBIT
section QCOV
variable {V : dV} {a c x y s : Int}
theorem q_turns (h0 : 0 ≤ s) : ∃ V' : dV, f_X12_turnsSquare V a s x y = (V', 0) ∧ (∀ b j z, ¬ (b = a ∧ j = 29) → V' b j z = V b j z) ∧ ∀ z, V' a 29 z = if y ≤ z ∧ z < y + s then dv_xor (V a 29 z) (mk s x) else V a 29 z := by
  unfold f_X12_turnsSquare
  refine dv_inv (P := fun q => ∃ (W : dV) (j : Int), q = (W, a, s, x, y, j) ∧ y ≤ j ∧ j ≤ y + s ∧ (∀ b k z, ¬ (b = a ∧ k = 29) → W b k z = V b k z) ∧ ∀ z, W a 29 z = if y ≤ z ∧ z < j then dv_xor (V a 29 z) (mk s x) else V a 29 z) (Q := fun q => ∃ V' : dV, q = (V', 0) ∧ (∀ b j z, ¬ (b = a ∧ j = 29) → V' b j z = V b j z) ∧ ∀ z, V' a 29 z = if y ≤ z ∧ z < y + s then dv_xor (V a 29 z) (mk s x) else V a 29 z) (m := fun q => (y + s - q.2.2.2.2.2).toNat) ?_ _ ⟨V, y, rfl, by omega, by omega, fun b k z _ => rfl, fun z => by rw [if_neg (by omega)]⟩
  rintro q ⟨W, j, rfl, j0, j1, hf, hz⟩
  simp only [f_X12_turnsSquare_3e, f_X12_turnsSquare_3c, bq]
  by_cases e : y + s ≤ j
  · rw [if_pos e]
    refine Or.inr ⟨_, rfl, W, rfl, hf, fun z => ?_⟩
    rw [hz, show j = y + s by omega]
  · rw [if_neg e]
    refine Or.inl ⟨_, rfl, ⟨_, j + 1, rfl, by omega, by omega, fun b k z w => ?_, fun z => ?_⟩, by dsimp only; omega⟩
    · unfold dv_u
      rw [if_neg (fun q => w ⟨q.1, q.2.1⟩)]
      exact hf b k z w
    · unfold dv_u
      by_cases w : z = j
      · rw [if_pos ⟨rfl, rfl, w⟩, if_pos (by omega), hz, if_neg (by omega), w]
        rfl
      · rw [if_neg (fun q => w q.2.2), hz]
        by_cases w1 : y ≤ z ∧ z < j
        · rw [if_pos w1, if_pos (by omega)]
        · rw [if_neg w1, if_neg (by omega)]
/-- what the floor φ covers -/
def cvd (φ : Nat → Int → Int) (n px py : Int) : Prop := ∃ c, 0 ≤ c ∧ c < n ∧ cov φ c px py
theorem q_covered (h : fb (kf (V a 2) 0)) (hw : ∀ c, 0 ≤ c → c < V a 2 69 → V a 2 (9 + c) ≠ -1 → V a 2 (9 + c) + V a 2 (29 + c) ≤ 12 ∧ V a 2 (18 + c) + V a 2 (29 + c) ≤ 12) (hd : dj (kf (V a 2) 0)) : ∃ V' : dV, f_X12_laysCovered V a = (V', 0) ∧ (∀ b j z, ¬ (b = a ∧ j = 29) → V' b j z = V b j z) ∧ ∀ py : Int, 0 ≤ py → py < 12 → ∀ i : Nat, i < 32 → (qb (V' a 29 py) i = true ↔ cvd (kf (V a 2) 0) (V a 2 69) (i : Int) py) := by
  have hn : 0 ≤ V a 2 69 ∧ V a 2 69 ≤ 9 := by have := h.1; simp only [kf, Int.zero_add] at this; exact this
  -- the second loop
  have L2 : ∀ W : dV, (∀ b j z, ¬ (b = a ∧ j = 29) → W b j z = V b j z) → (∀ py : Int, 0 ≤ py → py < 12 → W a 29 py = 0) → ∃ V' : dV, dv_lp f_X12_laysCovered_23b (W, a, 0) = Sum.inr (V', 0) ∧ (∀ b j z, ¬ (b = a ∧ j = 29) → V' b j z = V b j z) ∧ ∀ py : Int, 0 ≤ py → py < 12 → ∀ i : Nat, i < 32 → (qb (V' a 29 py) i = true ↔ cvd (kf (V a 2) 0) (V a 2 69) (i : Int) py) := by
    intro W hW h0
    refine dv_inv (P := fun q => ∃ (U : dV) (j : Int), q = (U, a, j) ∧ 0 ≤ j ∧ j ≤ V a 2 69 ∧ (∀ b k z, ¬ (b = a ∧ k = 29) → U b k z = V b k z) ∧ ∀ py : Int, 0 ≤ py → py < 12 → ∀ i : Nat, i < 32 → (qb (U a 29 py) i = true ↔ cvd (kf (V a 2) 0) j (i : Int) py)) (Q := fun q => ∃ V' : dV, q = Sum.inr (V', 0) ∧ (∀ b j z, ¬ (b = a ∧ j = 29) → V' b j z = V b j z) ∧ ∀ py : Int, 0 ≤ py → py < 12 → ∀ i : Nat, i < 32 → (qb (V' a 29 py) i = true ↔ cvd (kf (V a 2) 0) (V a 2 69) (i : Int) py)) (m := fun q => (V a 2 69 - q.2.2).toNat) ?_ _ ⟨W, 0, rfl, by omega, by omega, hW, fun py p0 p1 i hi => by rw [h0 py p0 p1, qb_0]; exact ⟨fun w => (by cases w), fun ⟨c, c0, c1, _⟩ => absurd c1 (by omega)⟩⟩
    rintro q ⟨U, j, rfl, j0, j1, hf, hz⟩
    have k2 : ∀ z, U a 2 z = V a 2 z := fun z => hf a 2 z (fun w => absurd w.2 (by decide))
    simp only [f_X12_laysCovered_23e, f_X12_laysCovered_23c, bq, bq2, q_many, q_mLaid, k2, qi0, qi1, qi2, qi3]
    by_cases e : V a 2 69 ≤ j
    · rw [if_pos e]
      refine Or.inr ⟨_, rfl, U, rfl, hf, ?_⟩
      rw [show V a 2 69 = j by omega]
      exact hz
    · rw [if_neg e]
      by_cases h3 : V a 2 (9 + j) = -1
      · rw [if_pos h3]
        refine Or.inl ⟨_, rfl, ⟨U, j + 1, rfl, by omega, by omega, hf, fun py p0 p1 i hi => ?_⟩, by dsimp only; omega⟩
        rw [hz py p0 p1 i hi]
        constructor
        · rintro ⟨c, c0, c1, w⟩; exact ⟨c, c0, by omega, w⟩
        · rintro ⟨c, c0, c1, w⟩
          by_cases wc : c = j
          · subst wc
            have w0 := w.1
            simp only [kf, Int.zero_add] at w0
            exact absurd h3 w0
          · exact ⟨c, c0, by omega, w⟩
      · rw [if_neg h3]
        have hc := h.2.2.2 j j0 (by simp only [kf, Int.zero_add]; omega)
        simp only [kf, Int.zero_add] at hc
        have hp := hc.2.resolve_left h3
        have hq := hw j j0 (by omega) h3
        obtain ⟨U', e1, f1, g1⟩ := q_turns (V := U) (a := a) (s := V a 2 (29 + j)) (x := V a 2 (9 + j)) (y := V a 2 (18 + j)) hc.1.1
        rw [e1]
        refine Or.inl ⟨_, rfl, ⟨U', j + 1, rfl, by omega, by omega, fun b k z w => (f1 b k z w).trans (hf b k z w), fun py p0 p1 i hi => ?_⟩, by dsimp only; omega⟩
        rw [g1]
        have hcj : cov (kf (V a 2) 0) j (i : Int) py ↔ (V a 2 (9 + j) ≤ (i : Int) ∧ (i : Int) < V a 2 (9 + j) + V a 2 (29 + j)) ∧ V a 2 (18 + j) ≤ py ∧ py < V a 2 (18 + j) + V a 2 (29 + j) := by
          unfold cov
          simp only [kf, Int.zero_add]
          constructor
          · rintro ⟨-, w1, w2, w3, w4⟩; exact ⟨⟨w1, w2⟩, w3, w4⟩
          · rintro ⟨⟨w1, w2⟩, w3, w4⟩; exact ⟨h3, w1, w2, w3, w4⟩
        have hs : cvd (kf (V a 2) 0) (j + 1) (i : Int) py ↔ cvd (kf (V a 2) 0) j (i : Int) py ∨ cov (kf (V a 2) 0) j (i : Int) py := by
          constructor
          · rintro ⟨c, c0, c1, w⟩
            by_cases wc : c = j
            · subst wc; exact Or.inr w
            · exact Or.inl ⟨c, c0, by omega, w⟩
          · rintro (⟨c, c0, c1, w⟩ | w)
            · exact ⟨c, c0, by omega, w⟩
            · exact ⟨j, j0, by omega, w⟩
        rw [hs]
        by_cases wy : V a 2 (18 + j) ≤ py ∧ py < V a 2 (18 + j) + V a 2 (29 + j)
        · rw [if_pos wy, qb_xor]
          have hm := qb_mk (s := V a 2 (29 + j)) (x := V a 2 (9 + j)) (i := i) hc.1.1 hc.1.2 hp.1 hp.2.1 hi
          have ho := hz py p0 p1 i hi
          by_cases wx : V a 2 (9 + j) ≤ (i : Int) ∧ (i : Int) < V a 2 (9 + j) + V a 2 (29 + j)
          · have hn : ¬ cvd (kf (V a 2) 0) j (i : Int) py := by
              rintro ⟨c, c0, c1, w⟩
              have := hd c j (i : Int) py c0 (by simp only [kf, Int.zero_add]; omega) j0 (by simp only [kf, Int.zero_add]; omega) w (hcj.mpr ⟨wx, wy⟩)
              omega
            rw [hm.mpr wx]
            have hu : qb (U a 29 py) i = false := by
              cases hv : qb (U a 29 py) i with
              | false => rfl
              | true => exact absurd (ho.mp hv) hn
            rw [hu]
            exact ⟨fun _ => Or.inr (hcj.mpr ⟨wx, wy⟩), fun _ => rfl⟩
          · have hmf : qb (mk (V a 2 (29 + j)) (V a 2 (9 + j))) i = false := by
              cases hv : qb (mk (V a 2 (29 + j)) (V a 2 (9 + j))) i with
              | false => rfl
              | true => exact absurd (hm.mp hv) wx
            rw [hmf, Bool.xor_false, ho]
            exact ⟨Or.inl, fun w => w.resolve_right (fun q => wx (hcj.mp q).1)⟩
        · rw [if_neg wy, hz py p0 p1 i hi]
          exact ⟨Or.inl, fun w => w.resolve_right (fun q => wy (hcj.mp q).2)⟩
  unfold f_X12_laysCovered
  refine dv_inv (P := fun q => ∃ (W : dV) (j : Int), q = (W, a, j) ∧ 0 ≤ j ∧ j ≤ 12 ∧ (∀ b k z, ¬ (b = a ∧ k = 29) → W b k z = V b k z) ∧ ∀ py : Int, 0 ≤ py → py < j → W a 29 py = 0) (Q := fun q => ∃ V' : dV, q = (V', 0) ∧ (∀ b j z, ¬ (b = a ∧ j = 29) → V' b j z = V b j z) ∧ ∀ py : Int, 0 ≤ py → py < 12 → ∀ i : Nat, i < 32 → (qb (V' a 29 py) i = true ↔ cvd (kf (V a 2) 0) (V a 2 69) (i : Int) py)) (m := fun q => (12 - q.2.2).toNat) ?_ _ ⟨V, 0, rfl, by omega, by omega, fun _ _ _ _ => rfl, fun py p0 p1 => absurd p1 (by omega)⟩
  rintro q ⟨W, j, rfl, j0, j1, hf, hz⟩
  simp only [f_X12_laysCovered_2e, f_X12_laysCovered_2c, bq]
  by_cases e : 12 ≤ j
  · rw [if_pos e]
    obtain ⟨V', e1, e2, e3⟩ := L2 W hf (fun py p0 p1 => hz py p0 (by omega))
    exact Or.inr ⟨_, e1, V', rfl, e2, e3⟩
  · rw [if_neg e]
    refine Or.inl ⟨_, rfl, ⟨_, j + 1, rfl, by omega, by omega, fun b k z w => ?_, fun py p0 p1 => ?_⟩, by dsimp only; omega⟩
    · unfold dv_u
      rw [if_neg (fun q => w ⟨q.1, q.2.1⟩)]
      exact hf b k z w
    · unfold dv_u
      by_cases w : py = j
      · rw [if_pos ⟨rfl, rfl, w⟩]
      · rw [if_neg (fun q => w q.2.2)]
        exact hz py p0 (by omega)
end QCOV
section QLIE
variable {V : dV} {a c x y s w h : Int}
theorem q_isFree (s0 : 0 ≤ s) : ∃ r : Int, f_X12_isFree V a s x y w h = (r, ()) ∧ (r = 1 ∨ r = 0) ∧ (r = 1 ↔ x + s ≤ w ∧ y + s ≤ h ∧ ∀ z, y ≤ z → z < y + s → dv_and (V a 29 z) (mk s x) = 0) := by
  have L : ∀ r0 : Int, (r0 = 1 ∨ r0 = 0) → ∃ r : Int, f_X12_isFree_21 V a s x y r0 = (r, ()) ∧ (r = 1 ∨ r = 0) ∧ (r = 1 ↔ r0 = 1 ∧ ∀ z, y ≤ z → z < y + s → dv_and (V a 29 z) (mk s x) = 0) := by
    intro r0 hr0
    unfold f_X12_isFree_21
    refine dv_inv (P := fun q => ∃ k j : Int, q = (V, a, s, x, y, k, j) ∧ y ≤ j ∧ j ≤ y + s ∧ (k = 1 ∨ k = 0) ∧ (k = 1 ↔ r0 = 1 ∧ ∀ z, y ≤ z → z < j → dv_and (V a 29 z) (mk s x) = 0)) (Q := fun q => ∃ r : Int, q = (r, ()) ∧ (r = 1 ∨ r = 0) ∧ (r = 1 ↔ r0 = 1 ∧ ∀ z, y ≤ z → z < y + s → dv_and (V a 29 z) (mk s x) = 0)) (m := fun q => (y + s - q.2.2.2.2.2.2).toNat) ?_ _ ⟨r0, y, rfl, by omega, by omega, hr0, ⟨fun e => ⟨e, fun z z0 z1 => absurd z1 (by omega)⟩, fun e => e.1⟩⟩
    rintro q ⟨k, j, rfl, j0, j1, hk, hz⟩
    simp only [f_X12_isFree_26e, f_X12_isFree_26c, bq]
    by_cases e : y + s ≤ j
    · rw [if_pos e]
      rw [show j = y + s by omega] at hz
      exact Or.inr ⟨_, rfl, k, rfl, hk, hz⟩
    · rw [if_neg e]
      by_cases e0 : k = 0
      · rw [if_pos e0]
        refine Or.inr ⟨_, rfl, k, rfl, hk, ⟨fun e1 => absurd e1 (by omega), fun e1 => ?_⟩⟩
        exact hz.mpr ⟨e1.1, fun z z0 z1 => e1.2 z z0 (by omega)⟩
      · rw [if_neg e0]
        have k1 : k = 1 := by omega
        have hz1 := hz.mp k1
        by_cases e1 : dv_and (V a 29 j) (mk s x) = 0
        · have e2 : ¬ dv_and (V a 29 j) (dv_shl (dv_sub (dv_shl 1 s) 1) x) ≠ 0 := fun q => q e1
          rw [if_neg e2]
          refine Or.inl ⟨_, rfl, ⟨1, j + 1, rfl, by omega, by omega, Or.inl rfl, ⟨fun _ => ⟨hz1.1, fun z z0 z1 => ?_⟩, fun _ => rfl⟩⟩, by dsimp only; omega⟩
          by_cases wz : z = j
          · rw [wz]; exact e1
          · exact hz1.2 z z0 (by omega)
        · have e2 : dv_and (V a 29 j) (dv_shl (dv_sub (dv_shl 1 s) 1) x) ≠ 0 := e1
          rw [if_pos e2]
          exact Or.inl ⟨_, rfl, ⟨0, j + 1, rfl, by omega, by omega, Or.inr rfl, ⟨fun q => absurd q (by decide), fun q => absurd (q.2 j j0 (by omega)) e1⟩⟩, by dsimp only; omega⟩
  unfold f_X12_isFree f_X12_isFree_20
  simp only [bq]
  by_cases e : w < x + s
  · rw [if_pos e]
    obtain ⟨r, h1, h2, h3⟩ := L 0 (Or.inr rfl)
    exact ⟨r, h1, h2, ⟨fun q => absurd (h3.mp q).1 (by decide), fun q => absurd q.1 (by omega)⟩⟩
  · rw [if_neg e]
    by_cases e1 : h < y + s
    · rw [if_pos e1]
      obtain ⟨r, h1, h2, h3⟩ := L 0 (Or.inr rfl)
      exact ⟨r, h1, h2, ⟨fun q => absurd (h3.mp q).1 (by decide), fun q => absurd q.2.1 (by omega)⟩⟩
    · rw [if_neg e1]
      obtain ⟨r, h1, h2, h3⟩ := L 1 (Or.inl rfl)
      exact ⟨r, h1, h2, ⟨fun q => ⟨by omega, by omega, (h3.mp q).2⟩, fun q => h3.mpr ⟨rfl, q.2.2⟩⟩⟩
/-- a carpet's place: rolled, no rags, within the hall, nothing covers its cells -/
def plc (φ : Nat → Int → Int) (c x y : Int) : Prop := (0 ≤ c ∧ c < φ 7 0) ∧ (φ 3 c = -1 ∧ 0 < φ 2 c) ∧ (0 ≤ x ∧ 0 ≤ y) ∧ (x + φ 0 c ≤ φ 8 0 ∧ y + φ 0 c ≤ φ 9 0) ∧ ∀ d, 0 ≤ d → d < φ 7 0 → φ 3 d ≠ -1 → ¬ (x < φ 3 d + φ 0 d ∧ φ 3 d < x + φ 0 c ∧ y < φ 4 d + φ 0 d ∧ φ 4 d < y + φ 0 c)
theorem ef_plc {φ ψ : Nat → Int → Int} (e : ef φ ψ) (hb : φ 7 0 ≤ 9) : plc φ c x y ↔ plc ψ c x y := by
  have e1 := e.1
  obtain ⟨-, -, e7, e8, e9, -⟩ := e
  unfold plc
  rw [e7] at hb
  rw [e7, e8, e9]
  constructor
  · rintro ⟨h1, h2, h3, h4, h5⟩
    obtain ⟨k0, -, k2, k3, -⟩ := e1 c h1.1 (by omega)
    rw [← k0, ← k2, ← k3]
    refine ⟨h1, h2, h3, h4, fun d d0 d1 hd => ?_⟩
    obtain ⟨l0, -, -, l3, l4⟩ := e1 d d0 (by omega)
    rw [← l0, ← l3, ← l4]
    exact h5 d d0 d1 (by rw [l3]; exact hd)
  · rintro ⟨h1, h2, h3, h4, h5⟩
    obtain ⟨k0, -, k2, k3, -⟩ := e1 c h1.1 (by omega)
    rw [k0, k2, k3]
    refine ⟨h1, h2, h3, h4, fun d d0 d1 hd => ?_⟩
    obtain ⟨l0, -, -, l3, l4⟩ := e1 d d0 (by omega)
    rw [l0, l3, l4]
    exact h5 d d0 d1 (by rw [← l3]; exact hd)
theorem q_hasPlace (hf : fb (V a)) (hx : x ≤ 11) (hy : y ≤ 11) : ∃ r : Int, f_X1_hasPlaceFor V a c x y = (r, ()) ∧ (r = 1 ∧ plc (V a) c x y ∨ r = 0 ∧ ¬ plc (V a) c x y) := by
  unfold f_X1_hasPlaceFor
  simp only [bq, bq2, q_isReady, qi0, qi1, qi2, qi3]
  by_cases e : (0 ≤ c ∧ c < V a 7 0) ∧ V a 3 c = -1 ∧ 0 < V a 2 c
  · have hc := hf.2.2.2 c e.1.1 e.1.2
    rw [if_pos e]
    by_cases e1 : x < 0
    · rw [if_pos e1]; exact ⟨0, rfl, Or.inr ⟨rfl, fun q => absurd q.2.2.1.1 (by omega)⟩⟩
    · rw [if_neg e1]
      by_cases e2 : y < 0
      · rw [if_pos e2]; exact ⟨0, rfl, Or.inr ⟨rfl, fun q => absurd q.2.2.1.2 (by omega)⟩⟩
      · rw [if_neg e2]
        by_cases e3 : V a 8 0 - V a 0 c < x
        · rw [if_pos e3]; exact ⟨0, rfl, Or.inr ⟨rfl, fun q => absurd q.2.2.2.1.1 (by omega)⟩⟩
        · rw [if_neg e3]
          by_cases e4 : y ≤ V a 9 0 - V a 0 c
          · rw [if_pos e4]
            refine dv_inv (P := fun q => ∃ j : Int, q = (V, a, c, x, y, j) ∧ 0 ≤ j ∧ j ≤ V a 7 0 ∧ ∀ d, 0 ≤ d → d < j → V a 3 d ≠ -1 → ¬ (x < V a 3 d + V a 0 d ∧ V a 3 d < x + V a 0 c ∧ y < V a 4 d + V a 0 d ∧ V a 4 d < y + V a 0 c)) (Q := fun q => ∃ r : Int, q = (r, ()) ∧ (r = 1 ∧ plc (V a) c x y ∨ r = 0 ∧ ¬ plc (V a) c x y)) (m := fun q => (V a 7 0 - q.2.2.2.2.2).toNat) ?_ _ ⟨0, rfl, by omega, hf.1.1, fun d d0 d1 => absurd d1 (by omega)⟩
            rintro q ⟨j, rfl, j0, j1, hz⟩
            simp only [f_X1_hasPlaceFor_51e, f_X1_hasPlaceFor_51c, f_X1_hasPlaceFor_145, bq, bq2, q_isLaid, qi0, qi1, qi2, qi3]
            by_cases k : V a 7 0 ≤ j
            · rw [if_pos k]
              exact Or.inr ⟨_, rfl, 1, rfl, Or.inl ⟨rfl, e.1, e.2, ⟨by omega, by omega⟩, ⟨by omega, by omega⟩, fun d d0 d1 => hz d d0 (by omega)⟩⟩
            · rw [if_neg k]
              have hj := hf.2.2.2 j j0 (by omega)
              by_cases h3 : V a 3 j = -1
              · rw [if_neg (by omega)]
                refine Or.inl ⟨_, rfl, ⟨j + 1, rfl, by omega, by omega, fun d d0 d1 hd => ?_⟩, by dsimp only; omega⟩
                by_cases wd : d = j
                · subst wd; exact absurd h3 hd
                · exact hz d d0 (by omega) hd
              · have hp := hj.2.resolve_left h3
                rw [if_pos ⟨by omega, by omega, h3⟩, dv_add_ok (by omega) (by omega) (by omega) (by omega) (by omega) (by omega), dv_add_ok (by omega) (by omega) (by omega) (by omega) (by omega) (by omega)]
                by_cases wv : x < V a 3 j + V a 0 j ∧ V a 3 j < x + V a 0 c ∧ y < V a 4 j + V a 0 j ∧ V a 4 j < y + V a 0 c
                · rw [if_neg (by omega), if_neg (by omega), if_neg (by omega), if_neg (by omega)]
                  exact Or.inr ⟨_, rfl, 0, rfl, Or.inr ⟨rfl, fun q => q.2.2.2.2 j j0 (by omega) h3 wv⟩⟩
                · have hs : (if V a 3 j + V a 0 j ≤ x then (Sum.inl (V, a, c, x, y, j + 1) : Sum (dV × Int × Int × Int × Int × Int) dP) else if x + V a 0 c ≤ V a 3 j then Sum.inl (V, a, c, x, y, j + 1) else if V a 4 j + V a 0 j ≤ y then Sum.inl (V, a, c, x, y, j + 1) else if y + V a 0 c ≤ V a 4 j then Sum.inl (V, a, c, x, y, j + 1) else Sum.inr (0, ())) = Sum.inl (V, a, c, x, y, j + 1) := by
                    split
                    · rfl
                    · split
                      · rfl
                      · split
                        · rfl
                        · split
                          · rfl
                          · exact absurd ⟨by omega, by omega, by omega, by omega⟩ wv
                  rw [hs]
                  refine Or.inl ⟨_, rfl, ⟨j + 1, rfl, by omega, by omega, fun d d0 d1 hd => ?_⟩, by dsimp only; omega⟩
                  by_cases wd : d = j
                  · subst wd; exact wv
                  · exact hz d d0 (by omega) hd
          · rw [if_neg e4]; exact ⟨0, rfl, Or.inr ⟨rfl, fun q => absurd q.2.2.2.1.2 (by omega)⟩⟩
  · rw [if_neg e]
    exact ⟨0, rfl, Or.inr ⟨rfl, fun q => e ⟨q.1, q.2.1⟩⟩⟩
/-- the reference's floor is as it must be -/
def kgf (φ : Nat → Int → Int) : Prop := fb φ ∧ dj φ ∧ (∀ c, 0 ≤ c → c < φ 7 0 → 1 ≤ φ 0 c ∧ 0 ≤ φ 1 c ∧ φ 1 c ≤ 3 ∧ 0 ≤ φ 2 c ∧ φ 2 c ≤ 9) ∧ (∀ c, 0 ≤ c → c < φ 7 0 → φ 3 c ≠ -1 → φ 3 c + φ 0 c ≤ φ 8 0 ∧ φ 4 c + φ 0 c ≤ φ 9 0) ∧ (1 ≤ φ 8 0 ∧ 1 ≤ φ 9 0) ∧ (0 ≤ φ 10 0 ∧ φ 10 0 ≤ 9999) ∧ (0 ≤ φ 5 0 ∧ φ 5 0 ≤ 999) ∧ (0 ≤ φ 5 1 ∧ φ 5 1 ≤ 10) ∧ 0 ≤ φ 5 2 ∧ φ 5 2 ≤ 9
/-- behind laysCovered: whether the carpet has its place -/
theorem q_free_plc {W : dV} (hk : kgf (kf (V a 2) 0)) (hcv : ∀ py : Int, 0 ≤ py → py < 12 → ∀ i : Nat, i < 32 → (qb (W a 29 py) i = true ↔ cvd (kf (V a 2) 0) (V a 2 69) (i : Int) py)) (c0 : 0 ≤ c) (c1 : c < V a 2 69) (hx0 : 0 ≤ x) (hy0 : 0 ≤ y) (hx : x ≤ 11) (hy : y ≤ 11) (hr : V a 2 (9 + c) = -1) (hp : 0 < V a 2 c) : (x + V a 2 (29 + c) ≤ V a 2 67 ∧ y + V a 2 (29 + c) ≤ V a 2 68 ∧ ∀ z, y ≤ z → z < y + V a 2 (29 + c) → dv_and (W a 29 z) (mk (V a 2 (29 + c)) x) = 0) ↔ plc (kf (V a 2) 0) c x y := by
  obtain ⟨hb, hd, hs, hl, hwh, -⟩ := hk
  simp only [kf, Int.zero_add] at hs hl hwh
  have hb' := hb
  unfold fb at hb'
  simp only [kf, Int.zero_add] at hb'
  obtain ⟨h7, h8, h9, hc⟩ := hb'
  have hcc := hc c c0 c1
  have hsc := hs c c0 c1
  unfold plc
  simp only [kf, Int.zero_add]
  constructor
  · rintro ⟨w1, w2, w3⟩
    refine ⟨⟨c0, c1⟩, ⟨hr, hp⟩, ⟨hx0, hy0⟩, ⟨w1, w2⟩, fun d d0 d1 hd3 ov => ?_⟩
    have hdd := hc d d0 d1
    have hpd := hdd.2.resolve_left hd3
    have hld := hl d d0 d1 hd3
    have hsd := hs d d0 d1
    -- a cell of both
    have hz := w3 (max y (V a 2 (18 + d))) (by omega) (by omega)
    have hz1 := qb_and0.mp hz (max x (V a 2 (9 + d))).toNat (by omega)
    refine hz1 ⟨(hcv _ (by omega) (by omega) _ (by omega)).mpr ⟨d, d0, d1, ?_⟩, (qb_mk hcc.1.1 hcc.1.2 hx0 (by omega) (by omega)).mpr (by omega)⟩
    unfold cov
    simp only [kf, Int.zero_add]
    exact ⟨hd3, by omega, by omega, by omega, by omega⟩
  · rintro ⟨-, -, -, ⟨w1, w2⟩, w3⟩
    refine ⟨w1, w2, fun z z0 z1 => qb_and0.mpr fun i hi hq => ?_⟩
    obtain ⟨q1, q2⟩ := hq
    have hm := (qb_mk hcc.1.1 hcc.1.2 hx0 (by omega) hi).mp q2
    obtain ⟨d, d0, d1, w⟩ := (hcv z (by omega) (by omega) i hi).mp q1
    unfold cov at w
    simp only [kf, Int.zero_add] at w
    exact w3 d d0 d1 w.1 ⟨by omega, by omega, by omega, by omega⟩
end QLIE
section QE9
variable {φ ψ : Nat → Int → Int} {K : Int → Int} {c x y : Int}
/-- as ef, but for what was paid -/
def ef9 (φ ψ : Nat → Int → Int) : Prop := (∀ c, 0 ≤ c → c < 9 → φ 0 c = ψ 0 c ∧ φ 1 c = ψ 1 c ∧ φ 2 c = ψ 2 c ∧ φ 3 c = ψ 3 c ∧ φ 4 c = ψ 4 c) ∧ (φ 5 0 = ψ 5 0 ∧ φ 5 1 = ψ 5 1 ∧ φ 5 2 = ψ 5 2) ∧ φ 7 0 = ψ 7 0 ∧ φ 8 0 = ψ 8 0 ∧ φ 9 0 = ψ 9 0
theorem ef_9 (e : ef φ ψ) : ef9 φ ψ := ⟨e.1, e.2.1, e.2.2.1, e.2.2.2.1, e.2.2.2.2.1⟩
theorem ef_10 (e : ef9 φ ψ) (h : φ 10 0 = ψ 10 0) : ef φ ψ := ⟨e.1, e.2.1, e.2.2.1, e.2.2.2.1, e.2.2.2.2, h⟩
theorem ef9_plc (e : ef9 φ ψ) (hb : φ 7 0 ≤ 9) : plc φ c x y ↔ plc ψ c x y := by
  have e0 : ef (fun j z => if j = 10 then ψ 10 0 else φ j z) ψ := ef_10 (φ := fun j z => if j = 10 then ψ 10 0 else φ j z) e rfl
  have r : plc (fun j z => if j = 10 then ψ 10 0 else φ j z) c x y ↔ plc ψ c x y := ef_plc e0 hb
  exact r
theorem ef9_n (e : ef9 φ (kf K 0)) : φ 7 0 = K 69 ∧ φ 8 0 = K 67 ∧ φ 9 0 = K 68 ∧ φ 5 0 = K 28 ∧ φ 5 1 = K 65 ∧ φ 5 2 = K 66 ∧ ∀ c, 0 ≤ c → c < 9 → φ 0 c = K (29 + c) ∧ φ 1 c = K (38 + c) ∧ φ 2 c = K c ∧ φ 3 c = K (9 + c) ∧ φ 4 c = K (18 + c) := by
  obtain ⟨e1, ⟨e2, e3, e4⟩, e5, e6, e7⟩ := e
  simp only [kf, Int.zero_add] at e1 e2 e3 e4 e5 e6 e7
  rw [if_pos trivial] at e2
  rw [if_neg (by decide)] at e3 e4
  exact ⟨e5, e6, e7, e2, e3, e4, e1⟩
theorem ef9_of (h : φ 7 0 = K 69 ∧ φ 8 0 = K 67 ∧ φ 9 0 = K 68 ∧ φ 5 0 = K 28 ∧ φ 5 1 = K 65 ∧ φ 5 2 = K 66 ∧ ∀ c, 0 ≤ c → c < 9 → φ 0 c = K (29 + c) ∧ φ 1 c = K (38 + c) ∧ φ 2 c = K c ∧ φ 3 c = K (9 + c) ∧ φ 4 c = K (18 + c)) : ef9 φ (kf K 0) := by
  obtain ⟨e5, e6, e7, e2, e3, e4, e1⟩ := h
  unfold ef9
  simp only [kf, Int.zero_add]
  rw [if_pos trivial, if_neg (by decide), if_neg (by decide)]
  exact ⟨e1, ⟨e2, e3, e4⟩, e5, e6, e7⟩
end QE9
section QDEN
/-- what a SUM, a TEST says by the words (none: BROKEN) -/
abbrev dn : Type := (Int → Int) → Option Int
def d_bd (v : Int) : Option Int := if v > 1000000000 ∨ v < -1000000000 then none else some v
def d_cal (c a b : Int) : Option Int := if c = 143 then d_bd (a + b) else if c = 145 then d_bd (a - b) else if c = 142 then d_bd (a * b) else if b = 0 then none else if c = 147 then d_bd (a.tdiv b) else d_bd (a.tmod b)
def d_op (c : Int) (A B : dn) : dn := fun w => match A w with
  | none => none
  | some a => match B w with
    | none => none
    | some b => d_cal c a b
def d_rel (c a b : Int) : Int := if c = 160 then (if a < b then 1 else 0) else if c = 162 then (if b < a then 1 else 0) else if a = b then 1 else 0
def d_cmp (c : Int) (A B : dn) : dn := fun w => match A w with
  | none => none
  | some a => match B w with
    | none => none
    | some b => some (d_rel c a b)
def d_not (A : dn) : dn := fun w => match A w with
  | none => none
  | some a => some (1 - a)
def d_and (A B : dn) : dn := fun w => match A w with
  | none => none
  | some a => if a = 0 then some 0 else B w
def d_or (A B : dn) : dn := fun w => match A w with
  | none => none
  | some a => if a = 0 then B w else some a
def d_lw (c : Int) : Int := if c = 8 then 0 else if c = 9 then 1 else if c = 10 then 2 else if c = 11 then 4 else if c = 12 then 5 else if c = 13 then 7 else if c = 14 then 3 else 6
/-- a NUMBER or a word: of a law (o 0), of orders (o 1) -/
def D_leaf (o : Int) (cd vl : Int → Int) (i j : Int) (A : dn) : Prop := (cd i = 50 ∧ (0 ≤ vl i ∧ vl i ≤ 1000) ∧ j = i + 1 ∧ A = fun _ => some (vl i)) ∨ (o = 0 ∧ (8 ≤ cd i ∧ cd i ≤ 15) ∧ j = i + 1 ∧ A = fun w => some (w (d_lw (cd i)))) ∨ (o = 1 ∧ (cd i = 14 ∨ cd i = 20) ∧ (cd (i + 1) = 50 ∧ 0 ≤ vl (i + 1) ∧ vl (i + 1) ≤ 8) ∧ j = i + 2 ∧ A = fun w => some (w ((if cd i = 14 then 5 else 14) + vl (i + 1)))) ∨ (o = 1 ∧ (15 ≤ cd i ∧ cd i ≤ 19) ∧ j = i + 1 ∧ A = fun w => some (w (cd i - 15)))
/-- from A, ending at i: n times an operator and what it joins -/
def d_ch (isop : Int → Prop) (cd : Int → Int) (El : Int → Int → dn → Prop) (op : Int → dn → dn → dn) : Nat → Int → dn → Int → dn → Prop
  | 0, i, A, j, R => i = j ∧ A = R ∧ ¬ isop (cd i)
  | n + 1, i, A, j, R => isop (cd i) ∧ ∃ (m : Int) (B : dn), El (i + 1) m B ∧ d_ch isop cd El op n m (op (cd i) A B) j R
def d_mul (c : Int) : Prop := c = 142 ∨ c = 147 ∨ c = 137
def d_add (c : Int) : Prop := c = 143 ∨ c = 145
def D_termF (cd : Int → Int) (P : Int → Int → dn → Prop) (i j : Int) (A : dn) : Prop := ∃ (m : Int) (B : dn) (n : Nat), P i m B ∧ d_ch d_mul cd P d_op n m B j A
def D_sumF (cd : Int → Int) (P : Int → Int → dn → Prop) (i j : Int) (A : dn) : Prop := ∃ (m : Int) (B : dn) (n : Nat), D_termF cd P i m B ∧ d_ch d_add cd (D_termF cd P) d_op n m B j A
def D_part (o : Int) (cd vl : Int → Int) : Nat → Int → Int → dn → Prop
  | 0 => D_leaf o cd vl
  | d + 1 => fun i j A => D_leaf o cd vl i j A ∨ (cd i = 191 ∧ D_sumF cd (D_part o cd vl d) (i + 1) (j - 1) A ∧ cd (j - 1) = 193)
def D_sum (o : Int) (cd vl : Int → Int) (d : Nat) : Int → Int → dn → Prop := D_sumF cd (D_part o cd vl d)
def D_comp (o : Int) (cd vl : Int → Int) (d : Nat) (i j : Int) (A : dn) : Prop := ∃ (m : Int) (B C : dn), D_sum o cd vl d i m B ∧ (cd m = 160 ∨ cd m = 162 ∨ cd m = 161) ∧ D_sum o cd vl d (m + 1) j C ∧ A = d_cmp (cd m) B C
def d_nots (n : Nat) (B : dn) : dn := if n % 2 = 0 then B else d_not B
def D_plainF (cd : Int → Int) (P : Int → Int → dn → Prop) (i j : Int) (A : dn) : Prop := ∃ (n : Nat) (B : dn), (∀ k : Nat, k < n → cd (i + k) = 7) ∧ cd (i + n) ≠ 7 ∧ P (i + n) j B ∧ A = d_nots n B
def D_bothF (cd : Int → Int) (P : Int → Int → dn → Prop) (i j : Int) (A : dn) : Prop := ∃ (m : Int) (B : dn) (n : Nat), D_plainF cd P i m B ∧ d_ch (fun c => c = 6) cd (D_plainF cd P) (fun _ => d_and) n m B j A
def D_testF (cd : Int → Int) (P : Int → Int → dn → Prop) (i j : Int) (A : dn) : Prop := ∃ (m : Int) (B : dn) (n : Nat), D_bothF cd P i m B ∧ d_ch (fun c => c = 5) cd (D_bothF cd P) (fun _ => d_or) n m B j A
def D_pos (o : Int) (cd vl : Int → Int) : Nat → Int → Int → dn → Prop
  | 0 => D_comp o cd vl 0
  | d + 1 => fun i j A => D_comp o cd vl (d + 1) i j A ∨ (cd i = 140 ∧ D_testF cd (D_pos o cd vl d) (i + 1) (j - 1) A ∧ cd (j - 1) = 141)
def D_test (o : Int) (cd vl : Int → Int) (d : Nat) : Int → Int → dn → Prop := D_testF cd (D_pos o cd vl d)
/-- what they say stays within 1,000,000,000 -/
def d_in (A : dn) : Prop := ∀ w : Int → Int, (∀ k, -2147483648 ≤ w k ∧ w k ≤ 2147483647) → ∀ x, A w = some x → -2147483648 ≤ x ∧ x ≤ 2147483647
theorem d_bd_in {v x : Int} (h : d_bd v = some x) : x = v ∧ -2147483648 ≤ x ∧ x ≤ 2147483647 := by
  unfold d_bd at h
  split at h
  · cases h
  · cases h
    exact ⟨rfl, by omega, by omega⟩
theorem d_cal_in {c a b x : Int} (h : d_cal c a b = some x) : -2147483648 ≤ x ∧ x ≤ 2147483647 := by
  unfold d_cal at h
  repeat (split at h; first | exact (d_bd_in h).2 | cases h)
  exact (d_bd_in h).2
theorem d_op_in {c : Int} {A B : dn} : d_in (d_op c A B) := by
  intro w _ x h
  unfold d_op at h
  split at h
  · cases h
  · split at h
    · cases h
    · exact d_cal_in h
theorem D_leaf_in {o : Int} {cd vl : Int → Int} {i j : Int} {A : dn} (h : D_leaf o cd vl i j A) : d_in A := by
  intro w hw x hx
  rcases h with ⟨-, h1, -, rfl⟩ | ⟨-, -, -, rfl⟩ | ⟨-, -, -, -, rfl⟩ | ⟨-, -, -, rfl⟩
  · cases hx; omega
  · cases hx; exact hw _
  · cases hx; exact hw _
  · cases hx; exact hw _
theorem d_ch_in {isop : Int → Prop} {cd : Int → Int} {El : Int → Int → dn → Prop} {n : Nat} : ∀ {i : Int} {A : dn} {j : Int} {R : dn}, d_in A → d_ch isop cd El d_op n i A j R → d_in R := by
  induction n with
  | zero => rintro i A j R hA ⟨-, rfl, -⟩; exact hA
  | succ n ih => rintro i A j R hA ⟨-, m, B, -, h⟩; exact ih d_op_in h
theorem D_termF_in {cd : Int → Int} {P : Int → Int → dn → Prop} (hP : ∀ i j A, P i j A → d_in A) {i j : Int} {A : dn} (h : D_termF cd P i j A) : d_in A := by
  obtain ⟨m, B, n, h1, h2⟩ := h
  exact d_ch_in (hP _ _ _ h1) h2
theorem D_sumF_in {cd : Int → Int} {P : Int → Int → dn → Prop} (hP : ∀ i j A, P i j A → d_in A) {i j : Int} {A : dn} (h : D_sumF cd P i j A) : d_in A := by
  obtain ⟨m, B, n, h1, h2⟩ := h
  exact d_ch_in (D_termF_in hP h1) h2
theorem D_part_in {o : Int} {cd vl : Int → Int} {d : Nat} : ∀ {i j : Int} {A : dn}, D_part o cd vl d i j A → d_in A := by
  induction d with
  | zero => intro i j A h; exact D_leaf_in h
  | succ d ih =>
    rintro i j A (h | ⟨-, h, -⟩)
    · exact D_leaf_in h
    · exact D_sumF_in (fun _ _ _ => ih) h
theorem D_sum_in {o : Int} {cd vl : Int → Int} {d : Nat} {i j : Int} {A : dn} (h : D_sum o cd vl d i j A) : d_in A := D_sumF_in (fun _ _ _ => D_part_in) h
end QDEN
section QL64
theorem dv_bm6 {n : Int} (h1 : -9223372036854775808 ≤ n) (h2 : n ≤ 9223372036854775807) : n.bmod (2 ^ 64) = n := by
  apply Int.bmod_eq_of_le <;> omega
theorem dv_lof {n : Int} (h1 : -9223372036854775808 ≤ n) (h2 : n ≤ 9223372036854775807) : (Int64.ofInt n).toInt = n := by
  rw [Int64.toInt_ofInt]; exact dv_bm6 h1 h2
/-- within 10 ^ 18 -/
def lb (n : Int) : Prop := -1000000000000000001 ≤ n ∧ n ≤ 1000000000000000001
theorem dv_ladd_ok {a b : Int} (ha : lb a) (hb : lb b) : dv_ladd a b = a + b := by
  unfold lb at ha hb; unfold dv_ladd
  rw [Int64.toInt_add, dv_lof (by omega) (by omega), dv_lof (by omega) (by omega)]; exact dv_bm6 (by omega) (by omega)
theorem dv_lsub_ok {a b : Int} (ha : lb a) (hb : lb b) : dv_lsub a b = a - b := by
  unfold lb at ha hb; unfold dv_lsub
  rw [Int64.toInt_sub, dv_lof (by omega) (by omega), dv_lof (by omega) (by omega)]; exact dv_bm6 (by omega) (by omega)
theorem mul_bd {a b : Int} (ha : -2147483648 ≤ a ∧ a ≤ 2147483648) (hb : -2147483648 ≤ b ∧ b ≤ 2147483647) : -4611686018427387904 ≤ a * b ∧ a * b ≤ 4611686018427387904 := by
  have h1 : (a * b).natAbs ≤ 2147483648 * 2147483648 := by
    rw [Int.natAbs_mul]
    exact Nat.mul_le_mul (by omega) (by omega)
  omega
theorem dv_lmul_ok {a b : Int} (ha : -2147483648 ≤ a ∧ a ≤ 2147483647) (hb : -2147483648 ≤ b ∧ b ≤ 2147483647) : dv_lmul a b = a * b := by
  have h := mul_bd ⟨ha.1, by omega⟩ hb
  unfold dv_lmul
  rw [Int64.toInt_mul, dv_lof (by omega) (by omega), dv_lof (by omega) (by omega)]; exact dv_bm6 (by omega) (by omega)
theorem tdiv_bd {a b : Int} (ha : -2147483648 ≤ a ∧ a ≤ 2147483647) : -2147483648 ≤ a.tdiv b ∧ a.tdiv b ≤ 2147483648 := by
  have h1 : (a.tdiv b).natAbs ≤ a.natAbs := by
    rw [Int.natAbs_tdiv]
    exact Nat.div_le_self _ _
  omega
theorem dv_ldiv_ok {a b : Int} (ha : -2147483648 ≤ a ∧ a ≤ 2147483647) (hb : -2147483648 ≤ b ∧ b ≤ 2147483647) : dv_ldiv a b = a.tdiv b := by
  have h := tdiv_bd (b := b) ha
  unfold dv_ldiv
  rw [Int64.toInt_div, dv_lof (by omega) (by omega), dv_lof (by omega) (by omega)]; exact dv_bm6 (by omega) (by omega)
theorem dv_lrem_ok {a b : Int} (ha : -2147483648 ≤ a ∧ a ≤ 2147483647) (hb : -2147483648 ≤ b ∧ b ≤ 2147483647) : dv_lrem a b = a.tmod b := by
  have h := tdiv_bd (b := b) ha
  have h2 := mul_bd h hb
  have h3 := dv_ldiv_ok ha hb
  unfold dv_ldiv at h3
  unfold dv_lrem
  rw [Int64.toInt_sub, Int64.toInt_mul, h3, dv_lof (by omega) (by omega), dv_lof (by omega) (by omega), dv_bm6 (n := a.tdiv b * b) (by omega) (by omega)]
  have h4 := Int.tmod_add_mul_tdiv a b
  rw [Int.mul_comm] at h4
  have h5 : (a.tmod b).natAbs ≤ a.natAbs := by
    rw [Int.natAbs_tmod]
    exact Nat.mod_le _ _
  rw [dv_bm6 (by omega) (by omega)]
  omega
theorem lcmp_lt {a b : Int} : dv_lcmp a b < 0 ↔ a < b := by unfold dv_lcmp; split <;> (try split) <;> omega
theorem lcmp_gt {a b : Int} : 0 < dv_lcmp a b ↔ b < a := by unfold dv_lcmp; split <;> (try split) <;> omega
theorem lcmp_eq {a b : Int} : dv_lcmp a b = 0 ↔ a = b := by unfold dv_lcmp; split <;> (try split) <;> omega
theorem lcmp_le {a b : Int} : dv_lcmp a b ≤ 0 ↔ a ≤ b := by unfold dv_lcmp; split <;> (try split) <;> omega
theorem lcmp_ge {a b : Int} : 0 ≤ dv_lcmp a b ↔ b ≤ a := by unfold dv_lcmp; split <;> (try split) <;> omega
end QL64
section QER
variable {a B o : Int} {cd vl w : Int → Int} {V V' V1 : dV}
/-- only go and broken of the reference have changed -/
def ex_fr (a : Int) (V V' : dV) : Prop := ∀ b j z, ¬ (b = a ∧ (j = 22 ∨ j = 24)) → V' b j z = V b j z
theorem ex_fr_r : ex_fr a V V := fun _ _ _ _ => rfl
theorem ex_fr_t (h : ex_fr a V V') (h1 : ex_fr a V' V1) : ex_fr a V V1 := fun b j z k => (h1 b j z k).trans (h b j z k)
theorem ex_fr_22 {x : Int} : ex_fr a V (dv_u V a 22 0 x) := fun b j z k => by
  unfold dv_u; rw [if_neg (fun q => k ⟨q.1, Or.inl q.2.1⟩)]
theorem ex_fr_24 {x : Int} : ex_fr a V (dv_u V a 24 0 x) := fun b j z k => by
  unfold dv_u; rw [if_neg (fun q => k ⟨q.1, Or.inr q.2.1⟩)]
theorem u22 {x : Int} : dv_u V a 22 0 x a 22 0 = x := by unfold dv_u; rw [if_pos ⟨rfl, rfl, rfl⟩]
theorem u24 {x : Int} : dv_u V a 24 0 x a 24 0 = x := by unfold dv_u; rw [if_pos ⟨rfl, rfl, rfl⟩]
theorem u22_24 {x : Int} : dv_u V a 22 0 x a 24 0 = V a 24 0 := by unfold dv_u; rw [if_neg (fun q => absurd q.2.1 (by decide))]
theorem u24_22 {x : Int} : dv_u V a 24 0 x a 22 0 = V a 22 0 := by unfold dv_u; rw [if_neg (fun q => absurd q.2.1 (by decide))]
/-- what the words of orders are worth, however far one has read -/
def ex_ow (a : Int) (w : Int → Int) (V : dV) : Prop := ∀ V' : dV, ex_fr a V V' → (∀ k, 0 ≤ k → k ≤ 8 → f_X12_orderValue V' a 14 k = (w (5 + k), ())) ∧ (∀ k, 0 ≤ k → k ≤ 8 → f_X12_orderValue V' a 20 k = (w (14 + k), ())) ∧ ∀ c k, 15 ≤ c → c ≤ 19 → f_X12_orderValue V' a c k = (w (c - 15), ())
/-- the reference reads the text (cd, vl) at B, of kind o, with the words w -/
def ex_cx (o : Int) (cd vl w : Int → Int) (a B : Int) (V : dV) : Prop := (∀ i, 0 ≤ i → cd i = if B + i < V a 23 0 then V a 2 (80 + (B + i)) else 0) ∧ (∀ i, 0 ≤ i → vl i = V a 2 (2880 + (B + i))) ∧ V a 25 0 = o ∧ (o = 0 → ∀ c, 8 ≤ c → c ≤ 15 → V a 26 (c - 8) = w (d_lw c)) ∧ (o ≠ 0 → ex_ow a w V)
theorem ex_cx_f (h : ex_cx o cd vl w a B V) (hf : ex_fr a V V') : ex_cx o cd vl w a B V' := by
  obtain ⟨h1, h2, h3, h4, h5⟩ := h
  have k : ∀ j z, j ≠ 22 → j ≠ 24 → V' a j z = V a j z := fun j z n1 n2 => hf a j z (fun q => q.2.elim n1 n2)
  refine ⟨fun i hi => ?_, fun i hi => ?_, ?_, fun e c c0 c1 => ?_, fun e V1 hf1 => h5 e V1 (ex_fr_t hf hf1)⟩
  · rw [k 23 0 (by decide) (by decide), k 2 _ (by decide) (by decide)]; exact h1 i hi
  · rw [k 2 _ (by decide) (by decide)]; exact h2 i hi
  · rw [k 25 0 (by decide) (by decide)]; exact h3
  · rw [k 26 _ (by decide) (by decide)]; exact h4 e c c0 c1
theorem q_codeAt (h : ex_cx o cd vl w a B V) {i x : Int} (hi : 0 ≤ i) (hx : x = B + i) : f_X12_codeAt V a x = (cd i, ()) := by
  unfold f_X12_codeAt
  simp only [bq]
  rw [h.1 i hi, hx]
  by_cases e : V a 23 0 ≤ B + i
  · rw [if_pos e, if_neg (by omega)]
  · rw [if_neg e, if_pos (by omega)]
theorem q_sign {x : Int} : f_X12_sign V x = (100 + x, ()) := by
  unfold f_X12_sign
  simp only [bq]
/-- whether it is broken behind it, and what it tells -/
def ex_rs (live b0 : Int) (x : Option Int) (b v : Int) : Prop := if live = 0 then (b = 0 ↔ b0 = 0) else if b0 ≠ 0 then b ≠ 0 else match x with
  | none => b ≠ 0
  | some y => b = 0 ∧ v = y
/-- a reading method computes what P says -/
def ex_ok (o : Int) (cd vl w : Int → Int) (a B : Int) (P : Int → Int → dn → Prop) (f : dV → Int → Int → dR) : Prop := ∀ (i j : Int) (A : dn), P i j A → 0 ≤ i → ∀ (V : dV) (live : Int), ex_cx o cd vl w a B V → V a 22 0 = B + i → ∃ (V' : dV) (v : Int), f V a live = (V', v) ∧ ex_fr a V V' ∧ V' a 22 0 = B + j ∧ ex_rs live (V a 24 0) (A w) (V' a 24 0) v ∧ i < j
theorem q_bounded {x live : Int} : ∃ (V' : dV) (v : Int), f_X12_bounded V a x live = (V', v) ∧ ex_fr a V V' ∧ V' a 22 0 = V a 22 0 ∧ (live = 0 → V' a 24 0 = V a 24 0) ∧ (V a 24 0 ≠ 0 → V' a 24 0 ≠ 0) ∧ (live ≠ 0 → V a 24 0 = 0 → match d_bd x with | none => V' a 24 0 ≠ 0 | some y => V' a 24 0 = 0 ∧ v = y) := by
  unfold f_X12_bounded f_X12_bounded_20 f_X12_bounded_25
  simp only [bq]
  have r : ∀ W : dV, (if W a 24 0 = 0 then (W, x) else (W, 0)) = (W, if W a 24 0 = 0 then x else 0) := fun W => by split <;> rfl
  simp only [r]
  by_cases e : live = 0
  · rw [if_pos e]
    exact ⟨V, _, rfl, ex_fr_r, rfl, fun _ => rfl, fun h => h, fun h => absurd e h⟩
  · rw [if_neg e]
    have hb : ∀ W : dV, d_bd x = none → W = dv_u V a 24 0 1 → ∃ (V' : dV) (v : Int), (W, if W a 24 0 = 0 then x else 0) = (V', v) ∧ ex_fr a V V' ∧ V' a 22 0 = V a 22 0 ∧ (live = 0 → V' a 24 0 = V a 24 0) ∧ (V a 24 0 ≠ 0 → V' a 24 0 ≠ 0) ∧ (live ≠ 0 → V a 24 0 = 0 → match d_bd x with | none => V' a 24 0 ≠ 0 | some y => V' a 24 0 = 0 ∧ v = y) := by
      intro W hx hW
      subst hW
      refine ⟨_, _, rfl, ex_fr_24, u24_22, fun h => absurd h e, fun _ => by rw [u24]; decide, fun _ _ => ?_⟩
      rw [hx]
      show dv_u V a 24 0 1 a 24 0 ≠ 0
      rw [u24]; decide
    by_cases e1 : 0 < dv_lcmp x 1000000000
    · rw [if_pos e1]
      have := lcmp_gt.mp e1
      exact hb _ (by unfold d_bd; rw [if_pos (by omega)]) rfl
    · rw [if_neg e1]
      by_cases e2 : 0 ≤ dv_lcmp x (-1000000000)
      · rw [if_pos e2]
        have h1 := mt lcmp_gt.mpr e1
        have h2 := lcmp_ge.mp e2
        refine ⟨V, _, rfl, ex_fr_r, rfl, fun h => absurd h e, fun h => h, fun _ h0 => ?_⟩
        have hx : d_bd x = some x := by unfold d_bd; rw [if_neg (by omega)]
        rw [hx]
        exact ⟨h0, if_pos h0⟩
      · rw [if_neg e2]
        have := mt lcmp_ge.mpr e2
        exact hb _ (by unfold d_bd; rw [if_pos (by omega)]) rfl
end QER
section QEP
variable {a B o : Int} {cd vl w : Int → Int} {V V' V1 : dV}
theorem q_passes {c i : Int} (h : ex_cx o cd vl w a B V) (hi : 0 ≤ i) (hg : V a 22 0 = B + i) : f_X12_passes0 V a c = if cd i = c then (dv_u V a 22 0 (B + (i + 1)), 1) else (V, 0) := by
  unfold f_X12_passes0
  simp only [bq, bq2]
  rw [q_codeAt h hi hg]
  by_cases e : cd i = c
  · rw [if_pos e, if_neg (fun q => q e), hg, Int.add_assoc]
  · rw [if_neg e, if_pos e]
theorem q_pass1 {c i : Int} (h : ex_cx o cd vl w a B V) (hi : 0 ≤ i) (hg : V a 22 0 = B + i) (e : cd i = c) : f_X12_passes0 V a c = (dv_u V a 22 0 (B + (i + 1)), 1) := by
  rw [q_passes h hi hg, if_pos e]
theorem q_pass0 {c i : Int} (h : ex_cx o cd vl w a B V) (hi : 0 ≤ i) (hg : V a 22 0 = B + i) (e : cd i ≠ c) : f_X12_passes0 V a c = (V, 0) := by
  rw [q_passes h hi hg, if_neg e]
theorem er_part {d : Nat} (ih : ∀ d', d = d' + 1 → ex_ok o cd vl w a B (D_sum o cd vl d') (f_X12_sumOf d')) (ho : o = 0 ∨ o = 1) : ex_ok o cd vl w a B (D_part o cd vl d) (f_X12_partOf d) := by
  intro i j A hP hi V live hx hg
  rw [f_X12_partOf_d]
  unfold f_X12_partOf_B
  simp only [bq, bq2, q_sign]
  rw [show (100 : Int) + 91 = 191 from rfl, q_passes hx hi hg]
  -- a leaf
  have LF : D_leaf o cd vl i j A → cd i ≠ 191 → ∃ (V' : dV) (v : Int), (if (V, (0 : Int)).2 = 0 then dv_b2 (f_X12_codeAt V a (V a 22 0)) fun x5 _ => (if (dv_u V a 22 0 (V a 22 0 + 1)) a 25 0 = 0 then f_X12_partOf_94 d (dv_pre (fun _ _ _ => dv_z) f_X12_sumOf d) (dv_u V a 22 0 (V a 22 0 + 1)) x5 a live 0 else if x5 = 14 then f_X12_partOf_70 d (dv_pre (fun _ _ _ => dv_z) f_X12_sumOf d) (dv_u V a 22 0 (V a 22 0 + 1)) x5 a live else if x5 ≠ 20 then f_X12_partOf_94 d (dv_pre (fun _ _ _ => dv_z) f_X12_sumOf d) (dv_u V a 22 0 (V a 22 0 + 1)) x5 a live 0 else f_X12_partOf_70 d (dv_pre (fun _ _ _ => dv_z) f_X12_sumOf d) (dv_u V a 22 0 (V a 22 0 + 1)) x5 a live) else (V, 0)) = (V', v) ∧ ex_fr a V V' ∧ V' a 22 0 = B + j ∧ ex_rs live (V a 24 0) (A w) (V' a 24 0) v ∧ i < j := by
    intro hl _
    rw [if_pos rfl, q_codeAt hx hi hg]
    simp only [bq2]
    have hx1 : ex_cx o cd vl w a B (dv_u V a 22 0 (V a 22 0 + 1)) := ex_cx_f hx ex_fr_22
    have g1 : dv_u V a 22 0 (V a 22 0 + 1) a 22 0 = B + (i + 1) := by rw [u22, hg, Int.add_assoc]
    have b1 : dv_u V a 22 0 (V a 22 0 + 1) a 24 0 = V a 24 0 := u22_24
    have f1 : ex_fr a V (dv_u V a 22 0 (V a 22 0 + 1)) := ex_fr_22
    have o1 := hx1.2.2.1
    generalize dv_u V a 22 0 (V a 22 0 + 1) = W at hx1 g1 b1 f1 o1 ⊢
    -- what 94 gives, the place known
    have E94 : ∀ (U : dV) (k x : Int), ex_fr a V U → U a 22 0 = B + j → U a 24 0 = V a 24 0 → i < j → (∀ live, live ≠ 0 → U a 24 0 = 0 → f_X12_partOf_94 d (dv_pre (fun _ _ _ => dv_z) f_X12_sumOf d) U (cd i) a live k = (U, x)) → A w = some x → ∃ (V' : dV) (v : Int), f_X12_partOf_94 d (dv_pre (fun _ _ _ => dv_z) f_X12_sumOf d) U (cd i) a live k = (V', v) ∧ ex_fr a V V' ∧ V' a 22 0 = B + j ∧ ex_rs live (V a 24 0) (A w) (V' a 24 0) v ∧ i < j := by
      intro U k x hf h22 h24 hij hv hA
      by_cases e : live = 0
      · refine ⟨U, 0, ?_, hf, h22, by unfold ex_rs; rw [if_pos e, h24], hij⟩
        unfold f_X12_partOf_94
        rw [if_pos e]
      · by_cases e1 : U a 24 0 = 0
        · refine ⟨U, x, hv live e e1, hf, h22, ?_, hij⟩
          unfold ex_rs
          rw [if_neg e, if_neg (by rw [← h24, e1]; decide), hA]
          exact ⟨e1, rfl⟩
        · refine ⟨U, 0, ?_, hf, h22, ?_, hij⟩
          · unfold f_X12_partOf_94
            simp only [bq]
            rw [if_neg e, if_neg e1]
          · unfold ex_rs
            rw [if_neg e, if_pos (by rw [← h24]; exact e1)]
            exact e1
    rcases hl with ⟨h50, hr, rfl, rfl⟩ | ⟨rfl, hr, rfl, rfl⟩ | ⟨rfl, hc, ⟨h50, hv0, hv8⟩, rfl, rfl⟩ | ⟨rfl, hr, rfl, rfl⟩
    · -- a number
      have r : (if W a 25 0 = 0 then f_X12_partOf_94 d (dv_pre (fun _ _ _ => dv_z) f_X12_sumOf d) W (cd i) a live 0 else if cd i = 14 then f_X12_partOf_70 d (dv_pre (fun _ _ _ => dv_z) f_X12_sumOf d) W (cd i) a live else if cd i ≠ 20 then f_X12_partOf_94 d (dv_pre (fun _ _ _ => dv_z) f_X12_sumOf d) W (cd i) a live 0 else f_X12_partOf_70 d (dv_pre (fun _ _ _ => dv_z) f_X12_sumOf d) W (cd i) a live) = f_X12_partOf_94 d (dv_pre (fun _ _ _ => dv_z) f_X12_sumOf d) W (cd i) a live 0 := by
        rw [if_neg (show ¬ cd i = 14 by omega), if_pos (show cd i ≠ 20 by omega)]
        split <;> rfl
      rw [r]
      refine E94 W 0 (vl i) f1 g1 b1 (by omega) (fun live e e1 => ?_) rfl
      unfold f_X12_partOf_94
      simp only [bq]
      rw [if_neg e, if_pos e1, if_neg (fun q => q h50), g1, hx1.2.1 i hi]
      congr 2
      omega
    · -- a word of a law
      rw [if_pos o1]
      refine E94 W 0 (w (d_lw (cd i))) f1 g1 b1 (by omega) (fun live e e1 => ?_) rfl
      unfold f_X12_partOf_94
      simp only [bq]
      rw [if_neg e, if_pos e1, if_pos (by omega), if_pos o1, hx1.2.2.2.1 rfl (cd i) hr.1 hr.2]
    · -- pile, laid
      have r : (if W a 25 0 = 0 then f_X12_partOf_94 d (dv_pre (fun _ _ _ => dv_z) f_X12_sumOf d) W (cd i) a live 0 else if cd i = 14 then f_X12_partOf_70 d (dv_pre (fun _ _ _ => dv_z) f_X12_sumOf d) W (cd i) a live else if cd i ≠ 20 then f_X12_partOf_94 d (dv_pre (fun _ _ _ => dv_z) f_X12_sumOf d) W (cd i) a live 0 else f_X12_partOf_70 d (dv_pre (fun _ _ _ => dv_z) f_X12_sumOf d) W (cd i) a live) = f_X12_partOf_70 d (dv_pre (fun _ _ _ => dv_z) f_X12_sumOf d) W (cd i) a live := by
        rw [if_neg (by rw [o1]; decide)]
        rcases hc with hc | hc
        · rw [if_pos hc]
        · rw [if_neg (by omega), if_neg (fun q => q hc)]
      rw [r]
      unfold f_X12_partOf_70
      simp only [bq]
      have hx2 : ex_cx 1 cd vl w a B (dv_u W a 22 0 (W a 22 0 + 1)) := ex_cx_f hx1 ex_fr_22
      have g2 : dv_u W a 22 0 (W a 22 0 + 1) a 22 0 = B + (i + 2) := by rw [u22, g1]; omega
      have b2 : dv_u W a 22 0 (W a 22 0 + 1) a 24 0 = V a 24 0 := by rw [u22_24, b1]
      have f2 : ex_fr a V (dv_u W a 22 0 (W a 22 0 + 1)) := ex_fr_t f1 ex_fr_22
      have hvl : W a 2 (2880 + W a 22 0) = vl (i + 1) := by rw [g1, hx1.2.1 (i + 1) (by omega)]
      rw [hvl]
      generalize dv_u W a 22 0 (W a 22 0 + 1) = U at hx2 g2 b2 f2 ⊢
      refine E94 U (vl (i + 1)) _ f2 g2 b2 (by omega) (fun live e e1 => ?_) rfl
      unfold f_X12_partOf_94
      simp only [bq, bq2]
      obtain ⟨w1, w2, -⟩ := hx2.2.2.2.2 (by decide) U ex_fr_r
      rw [if_neg e, if_pos e1, if_pos (by omega), if_neg (by rw [hx2.2.2.1]; decide)]
      rcases hc with hc | hc
      · rw [hc, w1 _ hv0 hv8, if_pos rfl]
      · rw [hc, w2 _ hv0 hv8, if_neg (by decide)]
    · -- another word of orders
      have r : (if W a 25 0 = 0 then f_X12_partOf_94 d (dv_pre (fun _ _ _ => dv_z) f_X12_sumOf d) W (cd i) a live 0 else if cd i = 14 then f_X12_partOf_70 d (dv_pre (fun _ _ _ => dv_z) f_X12_sumOf d) W (cd i) a live else if cd i ≠ 20 then f_X12_partOf_94 d (dv_pre (fun _ _ _ => dv_z) f_X12_sumOf d) W (cd i) a live 0 else f_X12_partOf_70 d (dv_pre (fun _ _ _ => dv_z) f_X12_sumOf d) W (cd i) a live) = f_X12_partOf_94 d (dv_pre (fun _ _ _ => dv_z) f_X12_sumOf d) W (cd i) a live 0 := by
        rw [if_neg (show ¬ cd i = 14 by omega), if_pos (show cd i ≠ 20 by omega)]
        split <;> rfl
      rw [r]
      refine E94 W 0 (w (cd i - 15)) f1 g1 b1 (by omega) (fun live e e1 => ?_) rfl
      unfold f_X12_partOf_94
      simp only [bq, bq2]
      obtain ⟨-, -, w3⟩ := hx1.2.2.2.2 (by decide) W ex_fr_r
      rw [if_neg e, if_pos e1, if_pos (by omega), if_neg (by rw [o1]; decide), w3 (cd i) 0 hr.1 hr.2]
  by_cases e191 : cd i = 191
  · -- a bracket
    cases d with
    | zero =>
      exfalso
      rcases hP with ⟨h, -⟩ | ⟨-, h, -⟩ | ⟨-, h, -⟩ | ⟨-, h, -⟩ <;> omega
    | succ d' =>
      rcases hP with hl | ⟨-, hs, hcl⟩
      · exfalso
        rcases hl with ⟨h, -⟩ | ⟨-, h, -⟩ | ⟨-, h, -⟩ | ⟨-, h, -⟩ <;> omega
      · rw [if_pos e191]
        simp only []
        rw [if_neg (by decide)]
        obtain ⟨V', v, e1, f1, g1, r1, l1⟩ := ih d' rfl (i + 1) (j - 1) A hs (by omega) (dv_u V a 22 0 (B + (i + 1))) live (ex_cx_f hx ex_fr_22) u22
        rw [show dv_pre (fun _ _ _ => dv_z) f_X12_sumOf (d' + 1) = f_X12_sumOf d' from rfl, e1]
        refine ⟨_, _, rfl, ex_fr_t ex_fr_22 (ex_fr_t f1 ex_fr_22), ?_, ?_, by omega⟩
        · rw [u22]
          show V' a 22 0 + 1 = B + j
          rw [g1]; omega
        · rw [u22_24]
          rw [u22_24] at r1
          exact r1
  · rw [if_neg e191]
    refine LF ?_ e191
    cases d with
    | zero => exact hP
    | succ d' => exact hP.resolve_right (fun q => e191 q.1)
end QEP
section QET
variable {a B o : Int} {cd vl w : Int → Int} {V V' V1 : dV}
theorem ex_rs_b {live b0 : Int} {x : Option Int} {b v : Int} (h : ex_rs live b0 x b v) (hl : live ≠ 0) (h0 : b0 ≠ 0) : b ≠ 0 := by
  unfold ex_rs at h
  rw [if_neg hl, if_pos h0] at h
  exact h
/-- an operator and what it joins, behind what they tell -/
theorem ex_rs_op {live b0 b1 b2 : Int} {c v y : Int} {A C : dn} (hb0 : live ≠ 0 → b0 = 0 → True) (h1 : ex_rs live b0 (A w) b1 v) (h2 : ex_rs live b1 (C w) b2 y) (b3 v3 : Int) (k0 : live = 0 → (b3 = 0 ↔ b2 = 0)) (kb : live ≠ 0 → b2 ≠ 0 → b3 ≠ 0) (k1 : live ≠ 0 → b2 = 0 → ∀ p q, A w = some p → C w = some q → v = p → y = q → match d_cal c p q with | none => b3 ≠ 0 | some r => b3 = 0 ∧ v3 = r) : ex_rs live b0 (d_op c A C w) b3 v3 := by
  unfold ex_rs at h1 h2 ⊢
  by_cases e : live = 0
  · rw [if_pos e] at h1 h2 ⊢
    exact (k0 e).trans (h2.trans h1)
  · rw [if_neg e] at h1 h2 ⊢
    by_cases e0 : b0 ≠ 0
    · rw [if_pos e0] at h1 ⊢
      rw [if_pos h1] at h2
      exact kb e h2
    · rw [if_neg e0] at h1 ⊢
      unfold d_op
      cases hA : A w with
      | none =>
        rw [hA] at h1
        rw [if_pos h1] at h2
        exact kb e h2
      | some p =>
        rw [hA] at h1
        obtain ⟨z1, z2⟩ := h1
        rw [if_neg (fun q => q z1)] at h2
        cases hC : C w with
        | none =>
          rw [hC] at h2
          exact kb e h2
        | some q =>
          rw [hC] at h2
          have := k1 e h2.1 p q hA hC z2 h2.2
          exact this
theorem er_tstep {d : Nat} {P : Int → Int → dn → Prop} {rc : dV → Int → Int → dR} (hP : ex_ok o cd vl w a B P rc) (hin : ∀ i j A, P i j A → d_in A) (hw : ∀ k, -2147483648 ≤ w k ∧ w k ≤ 2147483647) {i m live b0 v : Int} {A C : dn} (hA : d_in A) (hi : 0 ≤ i) (hx : ex_cx o cd vl w a B V) (hg : V a 22 0 = B + i) (hc : d_mul (cd i)) (hC : P (i + 1) m C) (hr : ex_rs live b0 (A w) (V a 24 0) v) : ∃ (V' : dV) (v' : Int), f_X12_termOf_54 d rc V a live v = Sum.inl (V', a, live, v') ∧ ex_fr a V V' ∧ V' a 22 0 = B + m ∧ ex_rs live b0 (d_op (cd i) A C w) (V' a 24 0) v' ∧ i < m := by
  unfold f_X12_termOf_54
  simp only [bq, bq2, q_sign]
  rw [q_codeAt hx hi hg]
  simp only []
  obtain ⟨V1, y, e1, f1, g1, r1, l1⟩ := hP (i + 1) m C hC (by omega) (dv_u V a 22 0 (V a 22 0 + 1)) live (ex_cx_f hx ex_fr_22) (by rw [u22, hg, Int.add_assoc])
  rw [u22_24] at r1
  rw [e1]
  simp only []
  have f1' := ex_fr_t ex_fr_22 f1
  -- the last step
  have L : ∀ (U : dV) (z : Int), ex_fr a V U → U a 22 0 = B + m → (live = 0 → (U a 24 0 = 0 ↔ V1 a 24 0 = 0)) → (live ≠ 0 → V1 a 24 0 ≠ 0 → U a 24 0 ≠ 0) → (live ≠ 0 → V1 a 24 0 = 0 → (z = y ∧ U a 24 0 = 0 ∧ (cd i = 142 ∨ y ≠ 0)) ∨ (y = 0 ∧ cd i ≠ 142 ∧ U a 24 0 ≠ 0)) → ∃ (V' : dV) (v' : Int), f_X12_termOf_121 d rc U (cd i) a live v z = Sum.inl (V', a, live, v') ∧ ex_fr a V V' ∧ V' a 22 0 = B + m ∧ ex_rs live b0 (d_op (cd i) A C w) (V' a 24 0) v' ∧ i < m := by
    intro U z fU gU b0' b1' b2'
    have BD : ∀ x : Int, (live ≠ 0 → V1 a 24 0 = 0 → ∀ p q, A w = some p → C w = some q → v = p → y = q → (z = y ∧ U a 24 0 = 0 ∧ (cd i = 142 ∨ y ≠ 0)) → d_cal (cd i) p q = d_bd x) → ∃ (V' : dV) (v' : Int), f_X12_termOf_160 d rc U a live x = Sum.inl (V', a, live, v') ∧ ex_fr a V V' ∧ V' a 22 0 = B + m ∧ ex_rs live b0 (d_op (cd i) A C w) (V' a 24 0) v' ∧ i < m := by
      intro x hxx
      obtain ⟨V2, v2, e2, f2, g2, k0, kb, k1⟩ := q_bounded (V := U) (a := a) (x := x) (live := live)
      unfold f_X12_termOf_160
      simp only [bq2]
      rw [e2]
      refine ⟨V2, v2, rfl, ex_fr_t fU f2, by rw [g2, gU], ?_, by omega⟩
      refine ex_rs_op (fun _ _ => trivial) hr r1 _ _ (fun e => by rw [k0 e]; exact b0' e) (fun e q => kb (b1' e q)) (fun e h0 p q hAp hCq hv hy => ?_)
      rcases b2' e h0 with h | ⟨hy0, hne, hU⟩
      · rw [hxx e h0 p q hAp hCq hv hy h]
        exact k1 e h.2.1
      · have : d_cal (cd i) p q = none := by
          unfold d_cal
          rcases hc with hc | hc | hc
          · exact absurd hc hne
          · rw [if_neg (by omega), if_neg (by omega), if_neg (by omega), if_pos (by omega)]
          · rw [if_neg (by omega), if_neg (by omega), if_neg (by omega), if_pos (by omega)]
        rw [this]
        exact kb hU
    unfold f_X12_termOf_121
    simp only [bq, bq2, q_sign]
    have bp : ∀ p, A w = some p → -2147483648 ≤ p ∧ p ≤ 2147483647 := fun p hp => hA w hw p hp
    have bqq : ∀ q, C w = some q → -2147483648 ≤ q ∧ q ≤ 2147483647 := fun q hq => hin _ _ _ hC w hw q hq
    rcases hc with hc | hc | hc
    · rw [if_neg (by omega)]
      refine BD _ fun e h0 p q hAp hCq hv hy h => ?_
      rw [hv, h.1, hy, dv_lmul_ok (bp p hAp) (bqq q hCq)]
      unfold d_cal
      rw [if_neg (by omega), if_neg (by omega), if_pos hc]
    · rw [if_pos (by omega), if_neg (by omega)]
      refine BD _ fun e h0 p q hAp hCq hv hy h => ?_
      rw [hv, h.1, hy, dv_ldiv_ok (bp p hAp) (bqq q hCq)]
      unfold d_cal
      rw [if_neg (by omega), if_neg (by omega), if_neg (by omega), if_neg (by omega), if_pos hc]
    · rw [if_pos (by omega), if_pos (by omega)]
      refine BD _ fun e h0 p q hAp hCq hv hy h => ?_
      rw [hv, h.1, hy, dv_lrem_ok (bp p hAp) (bqq q hCq)]
      unfold d_cal
      rw [if_neg (by omega), if_neg (by omega), if_neg (by omega), if_neg (by omega), if_neg (by omega)]
  unfold f_X12_termOf_110 f_X12_termOf_115
  simp only [bq]
  by_cases w1 : cd i = 142
  · rw [if_pos (by omega)]
    exact L V1 y f1' g1 (fun _ => Iff.rfl) (fun _ h => h) (fun _ h => Or.inl ⟨rfl, h, Or.inl w1⟩)
  · rw [if_neg (by omega)]
    by_cases w2 : dv_lcmp y 0 ≠ 0
    · rw [if_pos w2]
      exact L V1 y f1' g1 (fun _ => Iff.rfl) (fun _ h => h) (fun _ h => Or.inl ⟨rfl, h, Or.inr (fun q => w2 (lcmp_eq.mpr q))⟩)
    · rw [if_neg w2]
      have hy0 : y = 0 := lcmp_eq.mp (by omega)
      have K1 : (live = 0 → V1 a 24 0 ≠ 0) → ∃ (V' : dV) (v' : Int), f_X12_termOf_121 d rc (dv_u V1 a 24 0 1) (cd i) a live v 1 = Sum.inl (V', a, live, v') ∧ ex_fr a V V' ∧ V' a 22 0 = B + m ∧ ex_rs live b0 (d_op (cd i) A C w) (V' a 24 0) v' ∧ i < m := by
        intro h8
        exact L (dv_u V1 a 24 0 1) 1 (ex_fr_t f1' ex_fr_24) (by rw [u24_22, g1]) (fun e => by rw [u24]; exact ⟨fun q => absurd q (by decide), fun q => absurd q (h8 e)⟩) (fun _ _ => by rw [u24]; decide) (fun _ _ => Or.inr ⟨hy0, w1, by rw [u24]; decide⟩)
      by_cases w3 : V1 a 24 0 ≠ 0
      · rw [if_pos w3]
        exact K1 (fun _ => w3)
      · rw [if_neg w3]
        by_cases w4 : live = 0
        · rw [if_pos w4]
          exact L (dv_u V1 a 24 0 0) 1 (ex_fr_t f1' ex_fr_24) (by rw [u24_22, g1]) (fun _ => by rw [u24]; exact ⟨fun _ => by omega, fun _ => rfl⟩) (fun e => absurd w4 e) (fun e => absurd w4 e)
        · rw [if_neg w4]
          exact K1 (fun e => absurd e w4)
theorem er_tch {d : Nat} {P : Int → Int → dn → Prop} {rc : dV → Int → Int → dR} (hP : ex_ok o cd vl w a B P rc) (hin : ∀ i j A, P i j A → d_in A) (hw : ∀ k, -2147483648 ≤ w k ∧ w k ≤ 2147483647) {n : Nat} : ∀ {i j live b0 v : Int} {A R : dn} {V : dV}, d_ch d_mul cd P d_op n i A j R → d_in A → 0 ≤ i → ex_cx o cd vl w a B V → V a 22 0 = B + i → ex_rs live b0 (A w) (V a 24 0) v → ∃ (V' : dV) (v' : Int), dv_lp (f_X12_termOf_6b d rc) (V, a, live, v) = (V', v') ∧ ex_fr a V V' ∧ V' a 22 0 = B + j ∧ ex_rs live b0 (R w) (V' a 24 0) v' ∧ i ≤ j := by
  induction n with
  | zero =>
    rintro i j live b0 v A R V ⟨rfl, rfl, hn⟩ hA hi hx hg hr
    refine ⟨V, v, dv_lp_e ?_, ex_fr_r, hg, hr, by omega⟩
    simp only [f_X12_termOf_6e, f_X12_termOf_6c, bq, bq2, q_sign]
    rw [q_codeAt hx hi hg]
    simp only []
    unfold d_mul at hn
    rw [if_neg (by omega), if_neg (by omega), if_pos (by omega)]
  | succ n ih =>
    rintro i j live b0 v A R V ⟨hc, m, C, hC, hch⟩ hA hi hx hg hr
    obtain ⟨V1, v1, e1, f1, g1, r1, l1⟩ := er_tstep (d := d) hP hin hw hA hi hx hg hc hC hr
    have hs : f_X12_termOf_6b d rc (V, a, live, v) = Sum.inl (V1, a, live, v1) := by
      simp only [f_X12_termOf_6e, f_X12_termOf_6c, bq, bq2, q_sign]
      rw [q_codeAt hx hi hg, e1]
      simp only []
      rcases hc with hc | hc | hc
      · rw [if_pos (by omega)]
      · rw [if_neg (by omega), if_pos (by omega)]
      · rw [if_neg (by omega), if_neg (by omega), if_neg (by omega)]
    rw [dv_lp_s hs]
    obtain ⟨V2, v2, e2, f2, g2, r2, l2⟩ := ih hch d_op_in (by omega) (ex_cx_f hx f1) g1 r1
    exact ⟨V2, v2, e2, ex_fr_t f1 f2, g2, r2, by omega⟩
theorem er_term {d : Nat} (hP : ex_ok o cd vl w a B (D_part o cd vl d) (f_X12_partOf d)) (hw : ∀ k, -2147483648 ≤ w k ∧ w k ≤ 2147483647) : ex_ok o cd vl w a B (D_termF cd (D_part o cd vl d)) (f_X12_termOf d) := by
  rintro i j R ⟨m, A, n, hA, hch⟩ hi V live hx hg
  obtain ⟨V1, v1, e1, f1, g1, r1, l1⟩ := hP i m A hA hi V live hx hg
  obtain ⟨V2, v2, e2, f2, g2, r2, l2⟩ := er_tch (d := d) hP (fun _ _ _ => D_part_in) hw hch (D_part_in hA) (by omega) (ex_cx_f hx f1) g1 r1
  refine ⟨V2, v2, ?_, ex_fr_t f1 f2, g2, r2, by omega⟩
  rw [f_X12_termOf_d]
  unfold f_X12_termOf_B
  simp only [bq2]
  rw [e1]
  exact e2
theorem er_sstep {d : Nat} {P : Int → Int → dn → Prop} {rc : dV → Int → Int → dR} (hP : ex_ok o cd vl w a B P rc) (hin : ∀ i j A, P i j A → d_in A) (hw : ∀ k, -2147483648 ≤ w k ∧ w k ≤ 2147483647) {i m live b0 v : Int} {A C : dn} (hA : d_in A) (hi : 0 ≤ i) (hx : ex_cx o cd vl w a B V) (hg : V a 22 0 = B + i) (hc : d_add (cd i)) (hC : P (i + 1) m C) (hr : ex_rs live b0 (A w) (V a 24 0) v) : ∃ (V' : dV) (v' : Int), f_X12_sumOf_38 d rc V a live v = Sum.inl (V', a, live, v') ∧ ex_fr a V V' ∧ V' a 22 0 = B + m ∧ ex_rs live b0 (d_op (cd i) A C w) (V' a 24 0) v' ∧ i < m := by
  obtain ⟨V1, y, e1, f1, g1, r1, l1⟩ := hP (i + 1) m C hC (by omega) (dv_u V a 22 0 (V a 22 0 + 1)) live (ex_cx_f hx ex_fr_22) (by rw [u22, hg, Int.add_assoc])
  rw [u22_24] at r1
  have f1' := ex_fr_t ex_fr_22 f1
  have bp : ∀ p, A w = some p → lb p := fun p hp => by have := hA w hw p hp; unfold lb; omega
  have bqq : ∀ q, C w = some q → lb q := fun q hq => by have := hin _ _ _ hC w hw q hq; unfold lb; omega
  have BD : ∀ x : Int, (live ≠ 0 → V1 a 24 0 = 0 → ∀ p q, A w = some p → C w = some q → v = p → y = q → d_cal (cd i) p q = d_bd x) → ∃ (V' : dV) (v' : Int), f_X12_sumOf_95 d rc V1 a live x = Sum.inl (V', a, live, v') ∧ ex_fr a V V' ∧ V' a 22 0 = B + m ∧ ex_rs live b0 (d_op (cd i) A C w) (V' a 24 0) v' ∧ i < m := by
    intro x hxx
    obtain ⟨V2, v2, e2, f2, g2, k0, kb, k1⟩ := q_bounded (V := V1) (a := a) (x := x) (live := live)
    unfold f_X12_sumOf_95
    simp only [bq2]
    rw [e2]
    refine ⟨V2, v2, rfl, ex_fr_t f1' f2, by rw [g2, g1], ?_, by omega⟩
    refine ex_rs_op (fun _ _ => trivial) hr r1 _ _ (fun e => by rw [k0 e]) (fun e q => kb q) (fun e h0 p q hAp hCq hv hy => ?_)
    rw [hxx e h0 p q hAp hCq hv hy]
    exact k1 e h0
  have S59 : ∀ s : Int, f_X12_sumOf_59 d rc V a live v s = if s = 0 then f_X12_sumOf_95 d rc V1 a live (dv_lsub v y) else f_X12_sumOf_95 d rc V1 a live (dv_ladd v y) := by
    intro s
    unfold f_X12_sumOf_59
    simp only [bq, bq2]
    rw [e1]
  unfold f_X12_sumOf_38
  simp only [bq, bq2, q_sign]
  rw [q_codeAt hx hi hg]
  rcases hc with hc | hc
  · rw [if_neg (show ¬ (cd i, ()).1 ≠ 100 + 43 from fun q => q hc), S59, if_neg (by decide)]
    refine BD _ fun e h0 p q hAp hCq hv hy => ?_
    rw [hv, hy, dv_ladd_ok (bp p hAp) (bqq q hCq)]
    unfold d_cal
    rw [if_pos hc]
  · rw [if_pos (show (cd i, ()).1 ≠ 100 + 43 from fun q => by have q1 : cd i = 100 + 43 := q; omega), S59, if_pos rfl]
    refine BD _ fun e h0 p q hAp hCq hv hy => ?_
    rw [hv, hy, dv_lsub_ok (bp p hAp) (bqq q hCq)]
    unfold d_cal
    rw [if_neg (by omega), if_pos hc]
theorem er_sch {d : Nat} {P : Int → Int → dn → Prop} {rc : dV → Int → Int → dR} (hP : ex_ok o cd vl w a B P rc) (hin : ∀ i j A, P i j A → d_in A) (hw : ∀ k, -2147483648 ≤ w k ∧ w k ≤ 2147483647) {n : Nat} : ∀ {i j live b0 v : Int} {A R : dn} {V : dV}, d_ch d_add cd P d_op n i A j R → d_in A → 0 ≤ i → ex_cx o cd vl w a B V → V a 22 0 = B + i → ex_rs live b0 (A w) (V a 24 0) v → ∃ (V' : dV) (v' : Int), dv_lp (f_X12_sumOf_6b d rc) (V, a, live, v) = (V', v') ∧ ex_fr a V V' ∧ V' a 22 0 = B + j ∧ ex_rs live b0 (R w) (V' a 24 0) v' ∧ i ≤ j := by
  induction n with
  | zero =>
    rintro i j live b0 v A R V ⟨rfl, rfl, hn⟩ hA hi hx hg hr
    refine ⟨V, v, dv_lp_e ?_, ex_fr_r, hg, hr, by omega⟩
    simp only [f_X12_sumOf_6e, f_X12_sumOf_6c, bq, bq2, q_sign]
    rw [q_codeAt hx hi hg]
    simp only []
    unfold d_add at hn
    rw [if_neg (by omega), if_pos (by omega)]
  | succ n ih =>
    rintro i j live b0 v A R V ⟨hc, m, C, hC, hch⟩ hA hi hx hg hr
    obtain ⟨V1, v1, e1, f1, g1, r1, l1⟩ := er_sstep (d := d) hP hin hw hA hi hx hg hc hC hr
    have hs : f_X12_sumOf_6b d rc (V, a, live, v) = Sum.inl (V1, a, live, v1) := by
      simp only [f_X12_sumOf_6e, f_X12_sumOf_6c, bq, bq2, q_sign]
      rw [q_codeAt hx hi hg, e1]
      simp only []
      rcases hc with hc | hc
      · rw [if_pos (by omega)]
      · rw [if_neg (by omega), if_neg (by omega)]
    rw [dv_lp_s hs]
    obtain ⟨V2, v2, e2, f2, g2, r2, l2⟩ := ih hch d_op_in (by omega) (ex_cx_f hx f1) g1 r1
    exact ⟨V2, v2, e2, ex_fr_t f1 f2, g2, r2, by omega⟩
theorem er_sumd {d : Nat} (hP : ex_ok o cd vl w a B (D_part o cd vl d) (f_X12_partOf d)) (hw : ∀ k, -2147483648 ≤ w k ∧ w k ≤ 2147483647) : ex_ok o cd vl w a B (D_sum o cd vl d) (f_X12_sumOf d) := by
  have hT := er_term hP hw
  rintro i j R ⟨m, A, n, hA, hch⟩ hi V live hx hg
  obtain ⟨V1, v1, e1, f1, g1, r1, l1⟩ := hT i m A hA hi V live hx hg
  obtain ⟨V2, v2, e2, f2, g2, r2, l2⟩ := er_sch (d := d) hT (fun _ _ _ => D_termF_in (fun _ _ _ => D_part_in)) hw hch (D_termF_in (fun _ _ _ => D_part_in) hA) (by omega) (ex_cx_f hx f1) g1 r1
  refine ⟨V2, v2, ?_, ex_fr_t f1 f2, g2, r2, by omega⟩
  rw [f_X12_sumOf_d]
  unfold f_X12_sumOf_B
  simp only [bq2]
  rw [e1]
  exact e2
/-- the reference's sums tell what the SUM says -/
theorem er_sum (ho : o = 0 ∨ o = 1) (hw : ∀ k, -2147483648 ≤ w k ∧ w k ≤ 2147483647) (d : Nat) : ex_ok o cd vl w a B (D_sum o cd vl d) (f_X12_sumOf d) := by
  induction d with
  | zero => exact er_sumd (er_part (fun d' h => absurd h (by omega)) ho) hw
  | succ d ih => exact er_sumd (er_part (fun d' h => by cases h; exact ih) ho) hw
end QET
section QETT
variable {a B o : Int} {cd vl w : Int → Int} {V V' V1 : dV}
/-- a TEST says 0 or 1 -/
def d_01 (A : dn) : Prop := ∀ (w : Int → Int) (x : Int), A w = some x → x = 0 ∨ x = 1
theorem d_cmp_01 {c : Int} {A C : dn} : d_01 (d_cmp c A C) := by
  intro w x h
  unfold d_cmp at h
  split at h
  · cases h
  · split at h
    · cases h
    · cases h
      unfold d_rel
      split
      · split <;> omega
      · split
        · split <;> omega
        · split <;> omega
theorem d_not_01 {A : dn} (hA : d_01 A) : d_01 (d_not A) := by
  intro w x h
  unfold d_not at h
  split at h
  · cases h
  · rename_i y hy
    cases h
    rcases hA w y hy with rfl | rfl <;> omega
theorem d_nots_01 {n : Nat} {A : dn} (hA : d_01 A) : d_01 (d_nots n A) := by
  unfold d_nots
  split
  · exact hA
  · exact d_not_01 hA
theorem d_and_01 {A C : dn} (hA : d_01 A) (hC : d_01 C) : d_01 (d_and A C) := by
  intro w x h
  unfold d_and at h
  split at h
  · cases h
  · split at h
    · cases h; omega
    · exact hC w x h
theorem d_or_01 {A C : dn} (hA : d_01 A) (hC : d_01 C) : d_01 (d_or A C) := by
  intro w x h
  unfold d_or at h
  split at h
  · cases h
  · rename_i y hy
    split at h
    · exact hC w x h
    · cases h; exact hA w _ hy
theorem d_ch_01 {isop : Int → Prop} {El : Int → Int → dn → Prop} {op : Int → dn → dn → dn} (hE : ∀ i j A, El i j A → d_01 A) (ho : ∀ c A C, d_01 A → d_01 C → d_01 (op c A C)) {n : Nat} : ∀ {i : Int} {A : dn} {j : Int} {R : dn}, d_01 A → d_ch isop cd El op n i A j R → d_01 R := by
  induction n with
  | zero => rintro i A j R hA ⟨-, rfl, -⟩; exact hA
  | succ n ih => rintro i A j R hA ⟨-, m, C, hC, h⟩; exact ih (ho _ _ _ hA (hE _ _ _ hC)) h
theorem D_plainF_01 {P : Int → Int → dn → Prop} (hP : ∀ i j A, P i j A → d_01 A) {i j : Int} {A : dn} (h : D_plainF cd P i j A) : d_01 A := by
  obtain ⟨n, C, -, -, hC, rfl⟩ := h
  exact d_nots_01 (hP _ _ _ hC)
theorem D_bothF_01 {P : Int → Int → dn → Prop} (hP : ∀ i j A, P i j A → d_01 A) {i j : Int} {A : dn} (h : D_bothF cd P i j A) : d_01 A := by
  obtain ⟨m, C, n, h1, h2⟩ := h
  exact d_ch_01 (fun _ _ _ => D_plainF_01 hP) (fun _ _ _ => d_and_01) (D_plainF_01 hP h1) h2
theorem D_testF_01 {P : Int → Int → dn → Prop} (hP : ∀ i j A, P i j A → d_01 A) {i j : Int} {A : dn} (h : D_testF cd P i j A) : d_01 A := by
  obtain ⟨m, C, n, h1, h2⟩ := h
  exact d_ch_01 (fun _ _ _ => D_bothF_01 hP) (fun _ _ _ => d_or_01) (D_bothF_01 hP h1) h2
theorem D_comp_01 {d : Nat} {i j : Int} {A : dn} (h : D_comp o cd vl d i j A) : d_01 A := by
  obtain ⟨m, P, Q, -, -, -, rfl⟩ := h
  exact d_cmp_01
theorem D_pos_01 {d : Nat} : ∀ {i j : Int} {A : dn}, D_pos o cd vl d i j A → d_01 A := by
  induction d with
  | zero => intro i j A h; exact D_comp_01 h
  | succ d ih =>
    rintro i j A (h | ⟨-, h, -⟩)
    · exact D_comp_01 h
    · exact D_testF_01 (fun _ _ _ => ih) h
theorem D_sum_first {d : Nat} {i j : Int} {A : dn} (h : D_sum o cd vl d i j A) : cd i = 50 ∨ (8 ≤ cd i ∧ cd i ≤ 20) ∨ cd i = 191 := by
  obtain ⟨m, C, n, ⟨m1, C1, n1, h1, -⟩, -⟩ := h
  have hl : ∀ {i j : Int} {A : dn}, D_leaf o cd vl i j A → cd i = 50 ∨ (8 ≤ cd i ∧ cd i ≤ 20) ∨ cd i = 191 := by
    rintro i j A (⟨h, -⟩ | ⟨-, h, -⟩ | ⟨-, h, -⟩ | ⟨-, h, -⟩) <;> omega
  cases d with
  | zero => exact hl h1
  | succ d => exact h1.elim hl (fun q => Or.inr (Or.inr q.1))
theorem er_comp {d : Nat} (ho : o = 0 ∨ o = 1) (hw : ∀ k, -2147483648 ≤ w k ∧ w k ≤ 2147483647) : ex_ok o cd vl w a B (D_comp o cd vl d) (f_X12_positiveOf d) := by
  have hS := er_sum (a := a) (B := B) (cd := cd) (vl := vl) ho hw d
  rintro i j R ⟨m, P, Q, hP, hc, hQ, rfl⟩ hi V live hx hg
  have hf := D_sum_first hP
  rw [f_X12_positiveOf_d]
  unfold f_X12_positiveOf_B
  obtain ⟨V1, x, e1, f1, g1, r1, l1⟩ := hS i m P hP hi V live hx hg
  have hx1 := ex_cx_f hx f1
  obtain ⟨V2, y, e2, f2, g2, r2, l2⟩ := hS (m + 1) j Q hQ (by omega) (dv_u V1 a 22 0 (V1 a 22 0 + 1)) live (ex_cx_f hx1 ex_fr_22) (by rw [u22, g1, Int.add_assoc])
  rw [u22_24] at r2
  rw [dv_bn2 q_sign, dv_bn2 (q_pass0 hx hi hg (by omega)), if_pos rfl, dv_bn2 e1, bq, dv_bn2 (q_codeAt hx1 (by omega) g1), bq, bq, bq, dv_bn2 e2]
  have fr : ex_fr a V V2 := ex_fr_t f1 (ex_fr_t ex_fr_22 f2)
  -- what it tells at last
  have L : ∀ z : Int, (live ≠ 0 → V2 a 24 0 = 0 → z = d_rel (cd m) x y) → ∃ (V' : dV) (v : Int), (V2, z) = (V', v) ∧ ex_fr a V V' ∧ V' a 22 0 = B + j ∧ ex_rs live (V a 24 0) (d_cmp (cd m) P Q w) (V' a 24 0) v ∧ i < j := by
    intro z hz
    refine ⟨V2, z, rfl, fr, g2, ?_, by omega⟩
    unfold ex_rs at r1 r2 ⊢
    by_cases e : live = 0
    · rw [if_pos e] at r1 r2 ⊢
      exact r2.trans r1
    · rw [if_neg e] at r1 r2 ⊢
      by_cases e0 : V a 24 0 ≠ 0
      · rw [if_pos e0] at r1 ⊢
        rw [if_pos r1] at r2
        exact r2
      · rw [if_neg e0] at r1 ⊢
        unfold d_cmp
        cases hA : P w with
        | none =>
          rw [hA] at r1
          rw [if_pos r1] at r2
          exact r2
        | some p =>
          rw [hA] at r1
          obtain ⟨z1, z2⟩ := r1
          rw [if_neg (fun q => q z1)] at r2
          cases hC : Q w with
          | none =>
            rw [hC] at r2
            exact r2
          | some q =>
            rw [hC] at r2
            refine ⟨r2.1, ?_⟩
            rw [hz e r2.1, z2, r2.2]
  by_cases e : live = 0
  · rw [if_pos e]
    exact L 0 (fun h => absurd e h)
  · rw [if_neg e, bq]
    by_cases e1 : V2 a 24 0 ≠ 0
    · rw [if_pos e1]
      exact L 0 (fun _ h => absurd h e1)
    · rw [if_neg e1, dv_bn2 q_sign]
      rcases hc with hc | hc | hc
      · rw [if_neg (by omega), bq]
        by_cases k : 0 ≤ dv_lcmp x y
        · rw [if_pos k]
          have := lcmp_ge.mp k
          exact L 0 (fun _ _ => by unfold d_rel; rw [if_pos hc, if_neg (by omega)])
        · rw [if_neg k]
          have := mt lcmp_ge.mpr k
          exact L 1 (fun _ _ => by unfold d_rel; rw [if_pos hc, if_pos (by omega)])
      · rw [if_pos (by omega), dv_bn2 q_sign, if_neg (by omega), bq]
        by_cases k : dv_lcmp x y ≤ 0
        · rw [if_pos k]
          have := lcmp_le.mp k
          exact L 0 (fun _ _ => by unfold d_rel; rw [if_neg (by omega), if_pos hc, if_neg (by omega)])
        · rw [if_neg k]
          have := mt lcmp_le.mpr k
          exact L 1 (fun _ _ => by unfold d_rel; rw [if_neg (by omega), if_pos hc, if_pos (by omega)])
      · rw [if_pos (by omega), dv_bn2 q_sign, if_pos (by omega), bq]
        by_cases k : dv_lcmp x y ≠ 0
        · rw [if_pos k]
          exact L 0 (fun _ _ => by unfold d_rel; rw [if_neg (by omega), if_neg (by omega), if_neg (fun q => k (lcmp_eq.mpr q))])
        · rw [if_neg k]
          have k' : x = y := lcmp_eq.mp (by omega)
          exact L 1 (fun _ _ => by unfold d_rel; rw [if_neg (by omega), if_neg (by omega), if_pos k'])
theorem er_pos {d : Nat} (ih : ∀ d', d = d' + 1 → ex_ok o cd vl w a B (D_test o cd vl d') (f_X12_testOf d')) (ho : o = 0 ∨ o = 1) (hw : ∀ k, -2147483648 ≤ w k ∧ w k ≤ 2147483647) : ex_ok o cd vl w a B (D_pos o cd vl d) (f_X12_positiveOf d) := by
  intro i j A hP hi V live hx hg
  cases d with
  | zero => exact er_comp ho hw i j A hP hi V live hx hg
  | succ d' =>
    rcases hP with h | ⟨h1, h2, h3⟩
    · exact er_comp ho hw i j A h hi V live hx hg
    · rw [f_X12_positiveOf_d]
      unfold f_X12_positiveOf_B
      obtain ⟨V1, v, e1, f1, g1, r1, l1⟩ := ih d' rfl (i + 1) (j - 1) A h2 (by omega) (dv_u V a 22 0 (B + (i + 1))) live (ex_cx_f hx ex_fr_22) u22
      rw [dv_bn2 q_sign, dv_bn2 (q_pass1 hx hi hg (by omega)), if_neg (by decide), show dv_pre (fun _ _ _ => dv_z) f_X12_testOf (d' + 1) = f_X12_testOf d' from rfl, dv_bn2 e1, bq, bq, bq]
      refine ⟨_, _, rfl, ex_fr_t ex_fr_22 (ex_fr_t f1 ex_fr_22), ?_, ?_, by omega⟩
      · rw [u22]
        show V1 a 22 0 + 1 = B + j
        rw [g1]; omega
      · rw [u22_24]
        rw [u22_24] at r1
        exact r1
/-- a 1 turned n times -/
def d_tw (n : Nat) (t : Int) : Int := if n % 2 = 0 then t else 1 - t
theorem er_plain {d : Nat} (hP : ex_ok o cd vl w a B (D_pos o cd vl d) (f_X12_positiveOf d)) : ex_ok o cd vl w a B (D_plainF cd (D_pos o cd vl d)) (f_X12_plainOf d) := by
  have L : ∀ (n : Nat) (i j t live : Int) (C : dn) (V : dV), (t = 0 ∨ t = 1) → (∀ k : Nat, k < n → cd (i + k) = 7) → cd (i + n) ≠ 7 → D_pos o cd vl d (i + n) j C → 0 ≤ i → ex_cx o cd vl w a B V → V a 22 0 = B + i → ∃ (V' : dV) (v : Int), dv_lp (f_X12_plainOf_2b d (f_X12_positiveOf d)) (V, a, live, t) = (V', v) ∧ ex_fr a V V' ∧ V' a 22 0 = B + j ∧ ex_rs live (V a 24 0) (if d_tw n t = 0 then C w else d_not C w) (V' a 24 0) v ∧ i < j := by
    intro n
    induction n with
    | zero =>
      intro i j t live C V ht hk hn hC hi hx hg
      rw [Int.natCast_zero, Int.add_zero] at hn hC
      obtain ⟨V1, v, e1, f1, g1, r1, l1⟩ := hP i j C hC hi V live hx hg
      have h01 := D_pos_01 hC
      refine ⟨V1, if v = t then 0 else 1, dv_lp_e ?_, f1, g1, ?_, l1⟩
      · rw [f_X12_plainOf_2e]
        unfold f_X12_plainOf_2c
        rw [dv_bn2 (q_pass0 hx hi hg hn), if_pos rfl, dv_bn2 e1]
        split <;> rfl
      · have e9 : d_tw 0 t = t := rfl
        rw [e9]
        unfold ex_rs at r1 ⊢
        by_cases e : live = 0
        · rw [if_pos e] at r1 ⊢; exact r1
        · rw [if_neg e] at r1 ⊢
          by_cases e0 : V a 24 0 ≠ 0
          · rw [if_pos e0] at r1 ⊢; exact r1
          · rw [if_neg e0] at r1 ⊢
            unfold d_not
            cases hc : C w with
            | none =>
              rw [hc] at r1
              split <;> rename_i hh <;> (split at hh <;> first | exact r1 | cases hh)
            | some x =>
              rw [hc] at r1
              have hx01 := h01 w x hc
              rcases ht with rfl | rfl
              · rw [if_pos rfl]
                refine ⟨r1.1, ?_⟩
                rw [r1.2]
                split <;> omega
              · rw [if_neg (by decide)]
                refine ⟨r1.1, ?_⟩
                rw [r1.2]
                split <;> omega
    | succ n ih =>
      intro i j t live C V ht hk hn hC hi hx hg
      have h7 := hk 0 (by omega)
      rw [Int.natCast_zero, Int.add_zero] at h7
      have en : i + ((n + 1 : Nat) : Int) = (i + 1) + (n : Int) := by omega
      rw [en] at hn hC
      obtain ⟨V1, v, e1, f1, g1, r1, l1⟩ := ih (i + 1) j (1 - t) live C (dv_u V a 22 0 (B + (i + 1))) (by omega) (fun k hk1 => by have := hk (k + 1) (by omega); rw [show i + ((k + 1 : Nat) : Int) = (i + 1) + (k : Int) by omega] at this; exact this) hn hC (by omega) (ex_cx_f hx ex_fr_22) u22
      rw [u22_24] at r1
      refine ⟨V1, v, ?_, ex_fr_t ex_fr_22 f1, g1, ?_, by omega⟩
      · rw [← e1]
        refine dv_lp_s ?_
        rw [f_X12_plainOf_2e]
        unfold f_X12_plainOf_2c f_X12_plainOf_20
        rw [dv_bn2 (q_pass1 hx hi hg h7), if_neg (by decide)]
        rcases ht with rfl | rfl
        · rw [if_neg (by decide)]; rfl
        · rw [if_pos (by decide)]; rfl
      · have e9 : d_tw n (1 - t) = d_tw (n + 1) t := by
          unfold d_tw
          by_cases q : n % 2 = 0
          · rw [if_pos q, if_neg (by omega)]
          · rw [if_neg q, if_pos (by omega)]; omega
        rw [e9] at r1
        exact r1
  rintro i j A ⟨n, C, hk, hn, hC, rfl⟩ hi V live hx hg
  obtain ⟨V1, v, e1, f1, g1, r1, l1⟩ := L n i j 0 live C V (Or.inl rfl) hk hn hC hi hx hg
  refine ⟨V1, v, ?_, f1, g1, ?_, l1⟩
  · rw [f_X12_plainOf_d]
    exact e1
  · have e9 : d_nots n C w = if d_tw n 0 = 0 then C w else d_not C w := by
      unfold d_nots d_tw
      by_cases q : n % 2 = 0
      · rw [if_pos q, if_pos q, if_pos rfl]
      · rw [if_neg q, if_neg q, if_neg (by decide)]
    rw [e9]
    exact r1
end QETT
section QEBT
variable {a B o : Int} {cd vl w : Int → Int} {V V' V1 : dV}
theorem d_and_n {A C : dn} (h : A w = none) : d_and A C w = none := by unfold d_and; rw [h]
theorem d_and_v {A C : dn} {x : Int} (h : A w = some x) : d_and A C w = if x = 0 then some 0 else C w := by unfold d_and; rw [h]
theorem d_or_n {A C : dn} (h : A w = none) : d_or A C w = none := by unfold d_or; rw [h]
theorem d_or_v {A C : dn} {x : Int} (h : A w = some x) : d_or A C w = if x = 0 then C w else some x := by unfold d_or; rw [h]
theorem er_bch {d : Nat} {P : Int → Int → dn → Prop} {rc : dV → Int → Int → dR} (hP : ex_ok o cd vl w a B P rc) (h01 : ∀ i j A, P i j A → d_01 A) {n : Nat} : ∀ {i j live b0 v : Int} {A R : dn} {V : dV}, d_ch (fun c => c = 6) cd P (fun _ => d_and) n i A j R → d_01 A → 0 ≤ i → ex_cx o cd vl w a B V → V a 22 0 = B + i → ex_rs live b0 (A w) (V a 24 0) v → ∃ (V' : dV) (v' : Int), dv_lp (f_X12_bothOf_6b d rc) (V, a, live, v) = (V', v') ∧ ex_fr a V V' ∧ V' a 22 0 = B + j ∧ ex_rs live b0 (R w) (V' a 24 0) v' ∧ i ≤ j := by
  induction n with
  | zero =>
    rintro i j live b0 v A R V ⟨rfl, rfl, hn⟩ hA hi hx hg hr
    refine ⟨V, v, dv_lp_e ?_, ex_fr_r, hg, hr, by omega⟩
    rw [f_X12_bothOf_6e]
    unfold f_X12_bothOf_6c
    rw [dv_bn2 (q_pass0 hx hi hg hn), if_pos rfl]
  | succ n ih =>
    rintro i j live b0 v A R V ⟨hc, m, C, hC, hch⟩ hA hi hx hg hr
    have hc : cd i = 6 := hc
    have hC1 := h01 _ _ _ hC
    -- what is behind the and, asked live or not
    have K : ∀ lv : Int, ∃ (V1 : dV) (y : Int), rc (dv_u V a 22 0 (B + (i + 1))) a lv = (V1, y) ∧ ex_fr a V V1 ∧ V1 a 22 0 = B + m ∧ ex_rs lv (V a 24 0) (C w) (V1 a 24 0) y ∧ i < m := by
      intro lv
      obtain ⟨V1, y, e1, f1, g1, r1, l1⟩ := hP (i + 1) m C hC (by omega) (dv_u V a 22 0 (B + (i + 1))) lv (ex_cx_f hx ex_fr_22) u22
      rw [u22_24] at r1
      exact ⟨V1, y, e1, ex_fr_t ex_fr_22 f1, g1, r1, by omega⟩
    -- one step
    have S : ∃ (V1 : dV) (v1 : Int), f_X12_bothOf_6b d rc (V, a, live, v) = Sum.inl (V1, a, live, v1) ∧ ex_fr a V V1 ∧ V1 a 22 0 = B + m ∧ ex_rs live b0 (d_and A C w) (V1 a 24 0) v1 ∧ i < m := by
      have H29 : ∀ (lv y : Int) (V1 : dV), rc (dv_u V a 22 0 (B + (i + 1))) a lv = (V1, y) → f_X12_bothOf_29 d rc (dv_u V a 22 0 (B + (i + 1))) a live v lv = Sum.inl (V1, a, live, if v = 0 then 0 else if y = 0 then 0 else 1) := by
        intro lv y V1 e1
        unfold f_X12_bothOf_29 f_X12_bothOf_45 f_X12_bothOf_46
        rw [dv_bn2 e1]
        split
        · rfl
        · split <;> rfl
      rw [f_X12_bothOf_6e]
      unfold f_X12_bothOf_6c f_X12_bothOf_28
      rw [dv_bn2 (q_pass1 hx hi hg hc), if_neg (by decide)]
      unfold ex_rs at hr
      by_cases e : live = 0
      · obtain ⟨V1, y, e1, f1, g1, r1, l1⟩ := K 0
        rw [if_pos e] at hr
        rw [if_pos e, H29 0 y V1 e1]
        unfold ex_rs at r1
        rw [if_pos rfl] at r1
        exact ⟨V1, _, rfl, f1, g1, by unfold ex_rs; rw [if_pos e]; exact r1.trans hr, l1⟩
      · rw [if_neg e] at hr
        rw [if_neg e]
        by_cases q : v = 0
        · -- it can matter no more
          obtain ⟨V1, y, e1, f1, g1, r1, l1⟩ := K 0
          rw [if_pos q, H29 0 y V1 e1, if_pos q]
          refine ⟨V1, 0, rfl, f1, g1, ?_, l1⟩
          unfold ex_rs at r1 ⊢
          rw [if_pos rfl] at r1
          rw [if_neg e]
          by_cases e0 : b0 ≠ 0
          · rw [if_pos e0] at hr ⊢
            exact fun h => hr (r1.mp h)
          · rw [if_neg e0] at hr ⊢
            cases hAw : A w with
            | none => rw [hAw] at hr; rw [d_and_n hAw]; exact fun h => hr (r1.mp h)
            | some x =>
              rw [hAw] at hr
              have hv : V a 24 0 = 0 ∧ v = x := hr
              rw [d_and_v hAw, if_pos (by omega)]
              exact ⟨r1.mpr hv.1, rfl⟩
        · obtain ⟨V1, y, e1, f1, g1, r1, l1⟩ := K 1
          rw [if_neg q, H29 1 y V1 e1, if_neg q]
          refine ⟨V1, if y = 0 then 0 else 1, rfl, f1, g1, ?_, l1⟩
          unfold ex_rs at r1 ⊢
          rw [if_neg (by decide)] at r1
          rw [if_neg e]
          by_cases e0 : b0 ≠ 0
          · rw [if_pos e0] at hr ⊢
            rw [if_pos hr] at r1
            exact r1
          · rw [if_neg e0] at hr ⊢
            cases hAw : A w with
            | none =>
              rw [hAw] at hr
              have hr' : V a 24 0 ≠ 0 := hr
              rw [if_pos hr'] at r1
              rw [d_and_n hAw]
              exact r1
            | some x =>
              rw [hAw] at hr
              have hv : V a 24 0 = 0 ∧ v = x := hr
              rw [if_neg (fun k => k hv.1)] at r1
              rw [d_and_v hAw, if_neg (show ¬ x = 0 by omega)]
              cases hCw : C w with
              | none => rw [hCw] at r1; exact r1
              | some z =>
                rw [hCw] at r1
                have r2 : V1 a 24 0 = 0 ∧ y = z := r1
                refine ⟨r2.1, ?_⟩
                have := hC1 w z hCw
                show (if y = 0 then 0 else 1) = z
                split <;> omega
    obtain ⟨V1, v1, e1, f1, g1, r1, l1⟩ := S
    rw [dv_lp_s e1]
    obtain ⟨V2, v2, e2, f2, g2, r2, l2⟩ := ih hch (d_and_01 hA hC1) (by omega) (ex_cx_f hx f1) g1 r1
    exact ⟨V2, v2, e2, ex_fr_t f1 f2, g2, r2, by omega⟩
theorem er_both {d : Nat} (hP : ex_ok o cd vl w a B (D_pos o cd vl d) (f_X12_positiveOf d)) : ex_ok o cd vl w a B (D_bothF cd (D_pos o cd vl d)) (f_X12_bothOf d) := by
  have hT := er_plain hP
  have h01 : ∀ i j A, D_plainF cd (D_pos o cd vl d) i j A → d_01 A := fun _ _ _ => D_plainF_01 (fun _ _ _ => D_pos_01)
  rintro i j R ⟨m, A, n, hA, hch⟩ hi V live hx hg
  obtain ⟨V1, v1, e1, f1, g1, r1, l1⟩ := hT i m A hA hi V live hx hg
  obtain ⟨V2, v2, e2, f2, g2, r2, l2⟩ := er_bch (d := d) hT h01 hch (h01 _ _ _ hA) (by omega) (ex_cx_f hx f1) g1 r1
  refine ⟨V2, v2, ?_, ex_fr_t f1 f2, g2, r2, by omega⟩
  rw [f_X12_bothOf_d]
  unfold f_X12_bothOf_B
  simp only [bq2]
  rw [e1]
  exact e2
theorem er_och {d : Nat} {P : Int → Int → dn → Prop} {rc : dV → Int → Int → dR} (hP : ex_ok o cd vl w a B P rc) (h01 : ∀ i j A, P i j A → d_01 A) {n : Nat} : ∀ {i j live b0 v : Int} {A R : dn} {V : dV}, d_ch (fun c => c = 5) cd P (fun _ => d_or) n i A j R → d_01 A → 0 ≤ i → ex_cx o cd vl w a B V → V a 22 0 = B + i → ex_rs live b0 (A w) (V a 24 0) v → ∃ (V' : dV) (v' : Int), dv_lp (f_X12_testOf_6b d rc) (V, a, live, v) = (V', v') ∧ ex_fr a V V' ∧ V' a 22 0 = B + j ∧ ex_rs live b0 (R w) (V' a 24 0) v' ∧ i ≤ j := by
  induction n with
  | zero =>
    rintro i j live b0 v A R V ⟨rfl, rfl, hn⟩ hA hi hx hg hr
    refine ⟨V, v, dv_lp_e ?_, ex_fr_r, hg, hr, by omega⟩
    rw [f_X12_testOf_6e]
    unfold f_X12_testOf_6c
    rw [dv_bn2 (q_pass0 hx hi hg hn), if_pos rfl]
  | succ n ih =>
    rintro i j live b0 v A R V ⟨hc, m, C, hC, hch⟩ hA hi hx hg hr
    have hc : cd i = 5 := hc
    have hC1 := h01 _ _ _ hC
    have K : ∀ lv : Int, ∃ (V1 : dV) (y : Int), rc (dv_u V a 22 0 (B + (i + 1))) a lv = (V1, y) ∧ ex_fr a V V1 ∧ V1 a 22 0 = B + m ∧ ex_rs lv (V a 24 0) (C w) (V1 a 24 0) y ∧ i < m := by
      intro lv
      obtain ⟨V1, y, e1, f1, g1, r1, l1⟩ := hP (i + 1) m C hC (by omega) (dv_u V a 22 0 (B + (i + 1))) lv (ex_cx_f hx ex_fr_22) u22
      rw [u22_24] at r1
      exact ⟨V1, y, e1, ex_fr_t ex_fr_22 f1, g1, r1, by omega⟩
    have S : ∃ (V1 : dV) (v1 : Int), f_X12_testOf_6b d rc (V, a, live, v) = Sum.inl (V1, a, live, v1) ∧ ex_fr a V V1 ∧ V1 a 22 0 = B + m ∧ ex_rs live b0 (d_or A C w) (V1 a 24 0) v1 ∧ i < m := by
      have H29 : ∀ (lv y : Int) (V1 : dV), rc (dv_u V a 22 0 (B + (i + 1))) a lv = (V1, y) → f_X12_testOf_28 d rc (dv_u V a 22 0 (B + (i + 1))) a live v lv = Sum.inl (V1, a, live, if v ≠ 0 then 1 else if y = 0 then 0 else 1) := by
        intro lv y V1 e1
        unfold f_X12_testOf_28 f_X12_testOf_40 f_X12_testOf_45
        rw [dv_bn2 e1]
        split
        · rfl
        · split <;> rfl
      rw [f_X12_testOf_6e]
      unfold f_X12_testOf_6c f_X12_testOf_27
      rw [dv_bn2 (q_pass1 hx hi hg hc), if_neg (by decide)]
      unfold ex_rs at hr
      by_cases e : live = 0
      · obtain ⟨V1, y, e1, f1, g1, r1, l1⟩ := K 0
        rw [if_pos e] at hr
        rw [if_pos e, H29 0 y V1 e1]
        unfold ex_rs at r1
        rw [if_pos rfl] at r1
        exact ⟨V1, _, rfl, f1, g1, by unfold ex_rs; rw [if_pos e]; exact r1.trans hr, l1⟩
      · rw [if_neg e] at hr
        rw [if_neg e]
        by_cases q : v ≠ 0
        · obtain ⟨V1, y, e1, f1, g1, r1, l1⟩ := K 0
          rw [if_pos q, H29 0 y V1 e1, if_pos q]
          refine ⟨V1, 1, rfl, f1, g1, ?_, l1⟩
          unfold ex_rs at r1 ⊢
          rw [if_pos rfl] at r1
          rw [if_neg e]
          by_cases e0 : b0 ≠ 0
          · rw [if_pos e0] at hr ⊢
            exact fun h => hr (r1.mp h)
          · rw [if_neg e0] at hr ⊢
            cases hAw : A w with
            | none => rw [hAw] at hr; rw [d_or_n hAw]; exact fun h => hr (r1.mp h)
            | some x =>
              rw [hAw] at hr
              have hv : V a 24 0 = 0 ∧ v = x := hr
              rw [d_or_v hAw, if_neg (show ¬ x = 0 by omega)]
              refine ⟨r1.mpr hv.1, ?_⟩
              have := hA w x hAw
              omega
        · obtain ⟨V1, y, e1, f1, g1, r1, l1⟩ := K 1
          rw [if_neg q, H29 1 y V1 e1, if_neg q]
          refine ⟨V1, if y = 0 then 0 else 1, rfl, f1, g1, ?_, l1⟩
          unfold ex_rs at r1 ⊢
          rw [if_neg (by decide)] at r1
          rw [if_neg e]
          by_cases e0 : b0 ≠ 0
          · rw [if_pos e0] at hr ⊢
            rw [if_pos hr] at r1
            exact r1
          · rw [if_neg e0] at hr ⊢
            cases hAw : A w with
            | none =>
              rw [hAw] at hr
              have hr' : V a 24 0 ≠ 0 := hr
              rw [if_pos hr'] at r1
              rw [d_or_n hAw]
              exact r1
            | some x =>
              rw [hAw] at hr
              have hv : V a 24 0 = 0 ∧ v = x := hr
              rw [if_neg (fun k => k hv.1)] at r1
              rw [d_or_v hAw, if_pos (show x = 0 by omega)]
              cases hCw : C w with
              | none => rw [hCw] at r1; exact r1
              | some z =>
                rw [hCw] at r1
                have r2 : V1 a 24 0 = 0 ∧ y = z := r1
                refine ⟨r2.1, ?_⟩
                have := hC1 w z hCw
                show (if y = 0 then 0 else 1) = z
                split <;> omega
    obtain ⟨V1, v1, e1, f1, g1, r1, l1⟩ := S
    rw [dv_lp_s e1]
    obtain ⟨V2, v2, e2, f2, g2, r2, l2⟩ := ih hch (d_or_01 hA hC1) (by omega) (ex_cx_f hx f1) g1 r1
    exact ⟨V2, v2, e2, ex_fr_t f1 f2, g2, r2, by omega⟩
theorem er_testd {d : Nat} (hP : ex_ok o cd vl w a B (D_pos o cd vl d) (f_X12_positiveOf d)) : ex_ok o cd vl w a B (D_test o cd vl d) (f_X12_testOf d) := by
  have hT := er_both hP
  have h01 : ∀ i j A, D_bothF cd (D_pos o cd vl d) i j A → d_01 A := fun _ _ _ => D_bothF_01 (fun _ _ _ => D_pos_01)
  rintro i j R ⟨m, A, n, hA, hch⟩ hi V live hx hg
  obtain ⟨V1, v1, e1, f1, g1, r1, l1⟩ := hT i m A hA hi V live hx hg
  obtain ⟨V2, v2, e2, f2, g2, r2, l2⟩ := er_och (d := d) hT h01 hch (h01 _ _ _ hA) (by omega) (ex_cx_f hx f1) g1 r1
  refine ⟨V2, v2, ?_, ex_fr_t f1 f2, g2, r2, by omega⟩
  rw [f_X12_testOf_d]
  unfold f_X12_testOf_B
  simp only [bq2]
  rw [e1]
  exact e2
/-- the reference's tests tell what the TEST says -/
theorem er_test (ho : o = 0 ∨ o = 1) (hw : ∀ k, -2147483648 ≤ w k ∧ w k ≤ 2147483647) (d : Nat) : ex_ok o cd vl w a B (D_test o cd vl d) (f_X12_testOf d) := by
  induction d with
  | zero => exact er_testd (er_pos (fun d' h => absurd h (by omega)) ho hw)
  | succ d ih => exact er_testd (er_pos (fun d' h => by cases h; exact ih) ho hw)
end QEBT
