section QSC
variable {V V' V1 V2 W W' W1 W2 : dV} {r x a i t c v p q k w f n L b T to : Int} {j : Nat}
theorem dv_mul_ok {a b : Int} (h0 : -2147483648 ≤ a * b) (h1 : a * b ≤ 2147483647) (a0 : -2147483648 ≤ a) (a1 : a ≤ 2147483647) (b0 : -2147483648 ≤ b) (b1 : b ≤ 2147483647) : dv_mul a b = a * b := by
  unfold dv_mul
  rw [Int32.toInt_mul, dv_ofInt a0 a1, dv_ofInt b0 b1]; exact dv_bm h0 h1
theorem dv_uu {a : Int} {m : Nat} {z u w : Int} : dv_u (dv_u V a m z u) a m z w = dv_u V a m z w := by
  funext b k y
  unfold dv_u
  by_cases e : b = a ∧ k = m ∧ y = z
  · rw [if_pos e, if_pos e]
  · rw [if_neg e, if_neg e, if_neg e]
theorem dv_us {a : Int} {m : Nat} {z u : Int} (h : V a m z = u) : dv_u V a m z u = V := by
  funext b k y
  unfold dv_u
  by_cases e : b = a ∧ k = m ∧ y = z
  · rw [if_pos e, e.1, e.2.1, e.2.2, h]
  · rw [if_neg e]
def isl (b : Int) : Prop := 97 ≤ b ∧ b ≤ 122
def isd (b : Int) : Prop := 48 ≤ b ∧ b ≤ 57
theorem c_isL : ∃ y, f_X5_isLetter V b = (y, ()) ∧ (y = 1 ∧ isl b ∨ y = 0 ∧ ¬ isl b) := by
  unfold f_X5_isLetter isl
  by_cases h : b < 97
  · rw [if_pos h]; exact ⟨_, rfl, Or.inr ⟨rfl, by omega⟩⟩
  · rw [if_neg h]
    by_cases h1 : 122 < b
    · rw [if_pos h1]; exact ⟨_, rfl, Or.inr ⟨rfl, by omega⟩⟩
    · rw [if_neg h1]; exact ⟨_, rfl, Or.inl ⟨rfl, by omega⟩⟩
theorem c_isD : ∃ y, f_X5_isDigit V b = (y, ()) ∧ (y = 1 ∧ isd b ∨ y = 0 ∧ ¬ isd b) := by
  unfold f_X5_isDigit isd
  by_cases h : b < 48
  · rw [if_pos h]; exact ⟨_, rfl, Or.inr ⟨rfl, by omega⟩⟩
  · rw [if_neg h]
    by_cases h1 : 57 < b
    · rw [if_pos h1]; exact ⟨_, rfl, Or.inr ⟨rfl, by omega⟩⟩
    · rw [if_neg h1]; exact ⟨_, rfl, Or.inl ⟨rfl, by omega⟩⟩
theorem m_isS : f_X12_isSmall V b = f_X5_isLetter V b := by unfold f_X12_isSmall f_X5_isLetter; rfl
theorem m_isD : f_X12_isDigit V b = f_X5_isDigit V b := by unfold f_X12_isDigit f_X5_isDigit; rfl
/-- a run from f ends at t -/
def rn (P : Int → Prop) (b : Int → Int) (L f t : Int) : Prop := f ≤ t ∧ t ≤ L ∧ (∀ z, f ≤ z → z < t → P (b z)) ∧ (t < L → ¬ P (b t))
theorem rn_u {P P' : Int → Prop} {b b' : Int → Int} {t' : Int} (h : rn P b L f t) (h' : rn P' b' L f t') (e : ∀ z, f ≤ z → z < L → (P (b z) ↔ P' (b' z))) : t = t' := by
  obtain ⟨a1, a2, a3, a4⟩ := h
  obtain ⟨b1, b2, b3, b4⟩ := h'
  by_cases h1 : t < t'
  · exact absurd ((e t a1 (by omega)).mpr (b3 t a1 h1)) (a4 (by omega))
  · by_cases h2 : t' < t
    · exact absurd ((e t' b1 (by omega)).mp (a3 t' b1 h2)) (b4 (by omega))
    · omega
theorem c_eol (hf : f ≤ V (V r 2 0) 1 0) : ∃ t, f_X5_endOfLetters V r f = (t, ()) ∧ rn isl (V (V r 2 0) 0) (V (V r 2 0) 1 0) f t := by
  unfold f_X5_endOfLetters
  refine dv_inv (P := fun s => ∃ j : Int, s = (V, r, j) ∧ f ≤ j ∧ j ≤ V (V r 2 0) 1 0 ∧ ∀ z, f ≤ z → z < j → isl (V (V r 2 0) 0 z)) (Q := fun s => ∃ t, s = (t, ()) ∧ rn isl (V (V r 2 0) 0) (V (V r 2 0) 1 0) f t) (m := fun s => (V (V r 2 0) 1 0 - s.2.2).toNat) ?_ _ ⟨f, rfl, by omega, hf, fun z z0 z1 => absurd z1 (by omega)⟩
  rintro s ⟨j, rfl, j0, j1, hj⟩
  rw [f_X5_endOfLetters_2e]
  unfold f_X5_endOfLetters_2c
  rw [bq, bq]
  by_cases e : V (V r 2 0) 1 0 ≤ j
  · rw [if_pos e]
    exact Or.inr ⟨_, rfl, j, rfl, j0, j1, hj, fun z => absurd z (by omega)⟩
  · rw [if_neg e, bq, bq]
    obtain ⟨y, e1, h1⟩ := c_isL (V := V) (b := V (V r 2 0) 0 j)
    rw [dv_bn2 e1]
    rcases h1 with ⟨rfl, h1⟩ | ⟨rfl, h1⟩
    · rw [if_neg (by decide), bq]
      refine Or.inl ⟨_, rfl, ⟨j + 1, rfl, by omega, by omega, fun z z0 z1 => ?_⟩, by dsimp only; omega⟩
      by_cases q : z = j
      · rw [q]; exact h1
      · exact hj z z0 (by omega)
    · rw [if_pos rfl]
      exact Or.inr ⟨_, rfl, j, rfl, j0, j1, hj, fun _ => h1⟩
theorem c_eod (hf : f ≤ V (V r 2 0) 1 0) : ∃ t, f_X5_endOfDigits V r f = (t, ()) ∧ rn isd (V (V r 2 0) 0) (V (V r 2 0) 1 0) f t := by
  unfold f_X5_endOfDigits
  refine dv_inv (P := fun s => ∃ j : Int, s = (V, r, j) ∧ f ≤ j ∧ j ≤ V (V r 2 0) 1 0 ∧ ∀ z, f ≤ z → z < j → isd (V (V r 2 0) 0 z)) (Q := fun s => ∃ t, s = (t, ()) ∧ rn isd (V (V r 2 0) 0) (V (V r 2 0) 1 0) f t) (m := fun s => (V (V r 2 0) 1 0 - s.2.2).toNat) ?_ _ ⟨f, rfl, by omega, hf, fun z z0 z1 => absurd z1 (by omega)⟩
  rintro s ⟨j, rfl, j0, j1, hj⟩
  rw [f_X5_endOfDigits_2e]
  unfold f_X5_endOfDigits_2c
  rw [bq, bq]
  by_cases e : V (V r 2 0) 1 0 ≤ j
  · rw [if_pos e]
    exact Or.inr ⟨_, rfl, j, rfl, j0, j1, hj, fun z => absurd z (by omega)⟩
  · rw [if_neg e, bq, bq]
    obtain ⟨y, e1, h1⟩ := c_isD (V := V) (b := V (V r 2 0) 0 j)
    rw [dv_bn2 e1]
    rcases h1 with ⟨rfl, h1⟩ | ⟨rfl, h1⟩
    · rw [if_neg (by decide), bq]
      refine Or.inl ⟨_, rfl, ⟨j + 1, rfl, by omega, by omega, fun z z0 z1 => ?_⟩, by dsimp only; omega⟩
      by_cases q : z = j
      · rw [q]; exact h1
      · exact hj z z0 (by omega)
    · rw [if_pos rfl]
      exact Or.inr ⟨_, rfl, j, rfl, j0, j1, hj, fun _ => h1⟩
/-- a number's value on the way, both ways -/
def vlC (b : Int → Int) (p : Int) : Nat → Int
  | 0 => 0
  | n + 1 => min (vlC b p n * 10 + b (p + (n : Int)) - 48) 1001
def vlR (b : Int → Int) (p : Int) : Nat → Int
  | 0 => 0
  | n + 1 => if vlR b p n ≤ 1000000 then 10 * vlR b p n + b (p + (n : Int)) - 48 else vlR b p n
theorem vl_rel {b b' : Int → Int} : ∀ n : Nat, (∀ z, p ≤ z → z < p + (n : Int) → isd (b z) ∧ b' z = b z) → (vlC b p n = vlR b' p n ∧ 0 ≤ vlR b' p n ∧ vlR b' p n ≤ 1000) ∨ (vlC b p n = 1001 ∧ 1000 < vlR b' p n ∧ vlR b' p n ≤ 10000009) := by
  intro n
  induction n with
  | zero => intro _; exact Or.inl ⟨rfl, Int.le_refl 0, (by decide : (0 : Int) ≤ 1000)⟩
  | succ n ih =>
    intro h
    have hb := h (p + (n : Int)) (by omega) (by omega)
    have hi := ih (fun z z0 z1 => h z z0 (by omega))
    unfold isd at hb
    have e1 : vlC b p (n + 1) = min (vlC b p n * 10 + b (p + (n : Int)) - 48) 1001 := rfl
    have e2 : vlR b' p (n + 1) = if vlR b' p n ≤ 1000000 then 10 * vlR b' p n + b' (p + (n : Int)) - 48 else vlR b' p n := rfl
    rw [e1, e2]
    rcases hi with ⟨i1, i2, i3⟩ | ⟨i1, i2, i3⟩
    · rw [if_pos (by omega)]; omega
    · by_cases q : vlR b' p n ≤ 1000000
      · rw [if_pos q]; omega
      · rw [if_neg q]; omega
theorem c_value (h0 : p ≤ q) (hd : ∀ z, p ≤ z → z < q → isd (V (V r 2 0) 0 z)) : f_X5_valueFrom V r p q = (vlC (V (V r 2 0) 0) p (q - p).toNat, ()) := by
  unfold f_X5_valueFrom
  refine dv_for2 (s := fun i => (V, r, q, vlC (V (V r 2 0) 0) p i, p + (i : Int))) (n := (q - p).toNat) (by show (V, r, q, (0 : Int), p) = (V, r, q, 0, p + ((0 : Nat) : Int)); rw [show p + ((0 : Nat) : Int) = p by omega]) (fun i hi => ?_) ?_
  · have hr := vl_rel (b := V (V r 2 0) 0) (b' := V (V r 2 0) 0) (p := p) i (fun z z0 z1 => ⟨hd z z0 (by omega), rfl⟩)
    have hb := hd (p + (i : Int)) (by omega) (by omega)
    unfold isd at hb
    rw [f_X5_valueFrom_5e]
    unfold f_X5_valueFrom_5c
    rw [if_neg (by omega), bq, dv_mul_ok (by omega) (by omega) (by omega) (by omega) (by omega) (by omega), bq, bq, bq, dv_add_ok (by omega) (by omega) (by omega) (by omega) (by omega) (by omega), bq, dv_sub_ok (by omega) (by omega) (by omega) (by omega) (by omega) (by omega), bq, bq]
    show Sum.inl (V, r, q, vlC (V (V r 2 0) 0) p (i + 1), p + (i : Int) + 1) = Sum.inl (V, r, q, vlC (V (V r 2 0) 0) p (i + 1), p + ((i + 1 : Nat) : Int))
    rw [show p + ((i + 1 : Nat) : Int) = p + (i : Int) + 1 by omega]
  · rw [f_X5_valueFrom_5e]
    unfold f_X5_valueFrom_5c
    rw [if_pos (by omega)]
/-- the reference's value, and it goes on -/
theorem m_169d (hb : isd b) (h0 : p ≤ q) (hd : ∀ z, p ≤ z → z < q → isd (W a 11 z)) (hT : W a 18 0 = T) (h16 : W a 16 T = 0) : dv_lp f_X12_splits_169b (W, b, a, L, q, p) = Sum.inl (dv_u (dv_u W a 16 T (vlR (W a 11) p (q - p).toNat)) a 18 0 (T + 1), a, L, q) := by
  refine dv_for2 (s := fun i => (dv_u W a 16 T (vlR (W a 11) p i), b, a, L, q, p + (i : Int))) (n := (q - p).toNat) ?_ (fun i hi => ?_) ?_
  · show (W, b, a, L, q, p) = (dv_u W a 16 T 0, b, a, L, q, p + ((0 : Nat) : Int))
    rw [dv_us h16, show p + ((0 : Nat) : Int) = p by omega]
  · have hr := vl_rel (b := W a 11) (b' := W a 11) (p := p) i (fun z z0 z1 => ⟨hd z z0 (by omega), rfl⟩)
    have hc := hd (p + (i : Int)) (by omega) (by omega)
    unfold isd at hc
    obtain ⟨y, e1, h1⟩ := c_isD (V := dv_u W a 16 T (vlR (W a 11) p i)) (b := b)
    have y1 : y = 1 := by rcases h1 with h1 | h1; exact h1.1; exact absurd hb h1.2
    rw [f_X12_splits_169e]
    unfold f_X12_splits_169c f_X12_splits_240
    have h18 : dv_u W a 16 T (vlR (W a 11) p i) a 18 0 = T := by rw [u_j (by decide), hT]
    have h11 : dv_u W a 16 T (vlR (W a 11) p i) a 11 (p + (i : Int)) = W a 11 (p + (i : Int)) := u_j (by decide)
    rw [if_neg (by omega), m_isD, dv_bn2 e1, if_neg (by rw [y1]; decide), bq, bq, bq, h18, u_e]
    have e2 : vlR (W a 11) p (i + 1) = if vlR (W a 11) p i ≤ 1000000 then 10 * vlR (W a 11) p i + W a 11 (p + (i : Int)) - 48 else vlR (W a 11) p i := rfl
    show _ = Sum.inl (dv_u W a 16 T (vlR (W a 11) p (i + 1)), b, a, L, q, p + ((i + 1 : Nat) : Int))
    rw [e2, show p + ((i + 1 : Nat) : Int) = p + (i : Int) + 1 by omega]
    by_cases q1 : vlR (W a 11) p i ≤ 1000000
    · rw [if_pos q1, if_pos q1, bq, bq, u_e, bq, dv_mul_ok (by omega) (by omega) (by omega) (by omega) (by omega) (by omega), bq, h11, bq, dv_add_ok (by omega) (by omega) (by omega) (by omega) (by omega) (by omega), bq, dv_sub_ok (by omega) (by omega) (by omega) (by omega) (by omega) (by omega), bq, bq, dv_uu]
    · rw [if_neg q1, if_neg q1, bq, bq, u_e, bq, bq, dv_uu]
  · rw [f_X12_splits_169e]
    unfold f_X12_splits_169c f_X12_splits_247
    rw [if_pos (by omega), bq, bq, bq, u_j (by decide), hT]
theorem m_169n (hb : ¬ isd b) (hq : p < q) (hT : W a 18 0 = T) : dv_lp f_X12_splits_169b (W, b, a, L, q, p) = Sum.inl (dv_u W a 18 0 (T + 1), a, L, q) := by
  obtain ⟨y, e1, h1⟩ := c_isD (V := W) (b := b)
  have y0 : y = 0 := by rcases h1 with h1 | h1; exact absurd h1.2 hb; exact h1.1
  refine dv_lp_e ?_
  rw [f_X12_splits_169e]
  unfold f_X12_splits_169c f_X12_splits_247
  rw [if_neg (by omega), m_isD, dv_bn2 e1, if_pos y0, bq, bq, bq, hT]
/-- the reference's run of letters, of digits -/
theorem m_43 (hf : f ≤ L) : ∃ t, dv_lp f_X12_splits_43b (W, b, a, L, k, f) = f_X12_splits_68 W b a L k t ∧ rn isl (W a 11) L f t := by
  refine dv_inv (P := fun s => ∃ j : Int, s = (W, b, a, L, k, j) ∧ f ≤ j ∧ j ≤ L ∧ ∀ z, f ≤ z → z < j → isl (W a 11 z)) (Q := fun s => ∃ t, s = f_X12_splits_68 W b a L k t ∧ rn isl (W a 11) L f t) (m := fun s => (L - s.2.2.2.2.2).toNat) ?_ _ ⟨f, rfl, by omega, hf, fun z z0 z1 => absurd z1 (by omega)⟩
  rintro s ⟨j, rfl, j0, j1, hj⟩
  rw [f_X12_splits_43e]
  unfold f_X12_splits_43c
  by_cases e : L ≤ j
  · rw [if_pos e]
    exact Or.inr ⟨_, rfl, j, rfl, j0, j1, hj, fun z => absurd z (by omega)⟩
  · rw [if_neg e, bq, m_isS]
    obtain ⟨y, e1, h1⟩ := c_isL (V := W) (b := W a 11 j)
    rw [dv_bn2 e1]
    rcases h1 with ⟨rfl, h1⟩ | ⟨rfl, h1⟩
    · rw [if_neg (by decide), bq]
      refine Or.inl ⟨_, rfl, ⟨j + 1, rfl, by omega, by omega, fun z z0 z1 => ?_⟩, by dsimp only; omega⟩
      by_cases q : z = j
      · rw [q]; exact h1
      · exact hj z z0 (by omega)
    · rw [if_pos rfl]
      exact Or.inr ⟨_, rfl, j, rfl, j0, j1, hj, fun _ => h1⟩
theorem m_75 (hf : f ≤ L) : ∃ t, dv_lp f_X12_splits_75b (W, b, a, L, k, f) = f_X12_splits_100 W b a L k t ∧ rn isd (W a 11) L f t := by
  refine dv_inv (P := fun s => ∃ j : Int, s = (W, b, a, L, k, j) ∧ f ≤ j ∧ j ≤ L ∧ ∀ z, f ≤ z → z < j → isd (W a 11 z)) (Q := fun s => ∃ t, s = f_X12_splits_100 W b a L k t ∧ rn isd (W a 11) L f t) (m := fun s => (L - s.2.2.2.2.2).toNat) ?_ _ ⟨f, rfl, by omega, hf, fun z z0 z1 => absurd z1 (by omega)⟩
  rintro s ⟨j, rfl, j0, j1, hj⟩
  rw [f_X12_splits_75e]
  unfold f_X12_splits_75c
  by_cases e : L ≤ j
  · rw [if_pos e]
    exact Or.inr ⟨_, rfl, j, rfl, j0, j1, hj, fun z => absurd z (by omega)⟩
  · rw [if_neg e, bq, m_isD]
    obtain ⟨y, e1, h1⟩ := c_isD (V := W) (b := W a 11 j)
    rw [dv_bn2 e1]
    rcases h1 with ⟨rfl, h1⟩ | ⟨rfl, h1⟩
    · rw [if_neg (by decide), bq]
      refine Or.inl ⟨_, rfl, ⟨j + 1, rfl, by omega, by omega, fun z z0 z1 => ?_⟩, by dsimp only; omega⟩
      by_cases q : z = j
      · rw [q]; exact h1
      · exact hj z z0 (by omega)
    · rw [if_pos rfl]
      exact Or.inr ⟨_, rfl, j, rfl, j0, j1, hj, fun _ => h1⟩
end QSC
section QSD
variable {V V' V1 V2 W W' W1 W2 : dV} {r x a i t c v p q k w f n L b T to N : Int} {j : Nat}
theorem c_step (htp : V r 2 0 ≠ r) (hL : V (V r 2 0) 1 0 = L) (hp : p < L) (hn : n < 400) (h32 : V (V r 2 0) 0 p ≠ 32) (hb : 0 ≤ V (V r 2 0) 0 p ∧ V (V r 2 0) 0 p ≤ 255) : ∃ t to : Int, f_X5_scan_6b (V, r, f, p, n) = Sum.inl (dv_u (dv_u V r 1 f p) r 0 f t, r, f + 1, to, n + 1) ∧ ((isl (V (V r 2 0) 0 p) ∧ rn isl (V (V r 2 0) 0) L (p + 1) to ∧ f_X5_wordFrom (dv_u V r 1 f p) r p to = (t, ())) ∨ (isd (V (V r 2 0) 0 p) ∧ rn isd (V (V r 2 0) 0) L (p + 1) to ∧ t = 400 + vlC (V (V r 2 0) 0) p (to - p).toNat) ∨ (¬ isl (V (V r 2 0) 0 p) ∧ ¬ isd (V (V r 2 0) 0 p) ∧ to = p + 1 ∧ t = V (V r 2 0) 0 p)) := by
  rw [f_X5_scan_6e]
  unfold f_X5_scan_6c f_X5_scan_130 f_X5_scan_133
  rw [if_neg (by omega), bq, bq, if_neg (by omega), bq, bq, bq, if_neg h32, bq]
  have v2 : dv_u V r 1 f p r 2 0 = V r 2 0 := u_j (by decide)
  have vt : ∀ m z, dv_u V r 1 f p (V r 2 0) m z = V (V r 2 0) m z := fun m z => u_b htp
  have vf : dv_u V r 1 f p (V r 2 0) 0 = V (V r 2 0) 0 := funext (vt 0)
  generalize dv_u V r 1 f p = V1 at v2 vt vf
  have hL1 : p + 1 ≤ V1 (V1 r 2 0) 1 0 := by rw [v2, vt, hL]; omega
  obtain ⟨y, e1, h1⟩ := c_isL (V := V1) (b := V (V r 2 0) 0 p)
  rw [dv_bn2 e1]
  rcases h1 with ⟨rfl, h1⟩ | ⟨rfl, h1⟩
  · obtain ⟨to, e2, h2⟩ := c_eol (r := r) (f := p + 1) hL1
    obtain ⟨t, e3, -⟩ := q_wordFrom (V := V1) (r := r) (p := p) (q := to)
    rw [if_neg (by decide), dv_bn2 e2, dv_bn2 e3, bq, bq, bq]
    rw [v2, vt, vf, hL] at h2
    exact ⟨t, to, rfl, Or.inl ⟨h1, h2, e3⟩⟩
  · rw [if_pos rfl]
    obtain ⟨y2, e2, h2⟩ := c_isD (V := V1) (b := V (V r 2 0) 0 p)
    rw [dv_bn2 e2]
    rcases h2 with ⟨rfl, h2⟩ | ⟨rfl, h2⟩
    · obtain ⟨to, e3, h3⟩ := c_eod (r := r) (f := p + 1) hL1
      have hd : ∀ z, p ≤ z → z < to → isd (V1 (V1 r 2 0) 0 z) := by
        intro z z0 z1
        rw [v2, vt]
        by_cases q : z = p
        · rw [q]; exact h2
        · have := h3.2.2.1 z (by omega) z1
          rw [v2, vt] at this
          exact this
      have e4 := c_value (V := V1) (r := r) (p := p) (q := to) (by have := h3.1; omega) hd
      have hr := vl_rel (b := V (V r 2 0) 0) (b' := V (V r 2 0) 0) (p := p) (to - p).toNat (fun z z0 z1 => ⟨by have := hd z z0 (by omega); rw [v2, vt] at this; exact this, rfl⟩)
      rw [v2, vf] at e4
      rw [v2, vt, vf, hL] at h3
      rw [if_neg (by decide), dv_bn2 e3, dv_bn2 e4, dv_add_ok (by omega) (by omega) (by omega) (by omega) (by omega) (by omega), bq, bq, bq, bq]
      exact ⟨_, to, rfl, Or.inr (Or.inl ⟨h2, h3, rfl⟩)⟩
    · rw [if_pos rfl, bq, bq, bq]
      exact ⟨_, _, rfl, Or.inr (Or.inr ⟨h1, h2, rfl, rfl⟩)⟩
def M4 (W : dV) (a T k c v : Int) : dV := dv_u (dv_u (dv_u (dv_u (dv_u W a 17 T k) a 16 T 0) a 15 T c) a 16 T v) a 18 0 (T + 1)
theorem m_100 (hT : W a 18 0 = T) (hq : k < q) : ∃ c v : Int, f_X12_splits_100 W b a L k q = Sum.inl (M4 W a T k c v, a, L, q) ∧ ((isl b ∧ v = 0 ∧ f_X12_wordOf (dv_u (dv_u W a 17 T k) a 16 T 0) a k q = (c, ())) ∨ (isd b ∧ ((∀ z, k ≤ z → z < q → isd (W a 11 z)) → c = 50 ∧ v = vlR (W a 11) k (q - k).toNat)) ∨ (¬ isl b ∧ ¬ isd b ∧ c = 100 + dv_and b 255 ∧ v = 0)) ∨ (isd b ∧ ¬ ∀ z, k ≤ z → z < q → isd (W a 11 z)) := by
  by_cases hz : isd b ∧ ¬ ∀ z, k ≤ z → z < q → isd (W a 11 z)
  · exact ⟨0, 0, Or.inr hz⟩
  have x18 : dv_u W a 17 T k a 18 0 = T := by rw [u_j (by decide), hT]
  have y18 : dv_u (dv_u W a 17 T k) a 16 T 0 a 18 0 = T := by rw [u_j (by decide), x18]
  -- behind the code
  have E : ∀ c, dv_u (dv_u (dv_u W a 17 T k) a 16 T 0) a 15 T c a 18 0 = T := fun c => by rw [u_j (by decide), y18]
  have E16 : ∀ c, dv_u (dv_u (dv_u W a 17 T k) a 16 T 0) a 15 T c a 16 T = 0 := fun c => by rw [u_j (by decide), u_e]
  have E11 : ∀ c, dv_u (dv_u (dv_u W a 17 T k) a 16 T 0) a 15 T c a 11 = W a 11 := fun c => funext fun z => by rw [u_j (by decide), u_j (by decide), u_j (by decide)]
  have M0 : ∀ c, dv_u (dv_u (dv_u (dv_u W a 17 T k) a 16 T 0) a 15 T c) a 18 0 (T + 1) = M4 W a T k c 0 := fun c => by unfold M4; rw [dv_us (E16 c)]
  unfold f_X12_splits_100 f_X12_splits_165
  rw [bq, bq, bq, bq, bq, hT, x18, y18, m_isS]
  obtain ⟨y, e1, h1⟩ := c_isL (V := dv_u (dv_u W a 17 T k) a 16 T 0) (b := b)
  rw [dv_bn2 e1]
  rcases h1 with ⟨rfl, h1⟩ | ⟨rfl, h1⟩
  · have hnd : ¬ isd b := by unfold isl at h1; unfold isd; omega
    rw [if_neg (by decide)]
    obtain ⟨c, hc⟩ : ∃ c, f_X12_wordOf (dv_u (dv_u W a 17 T k) a 16 T 0) a k q = (c, ()) := ⟨_, rfl⟩
    rw [dv_bn2 hc, bq, m_169n hnd hq (E c), M0]
    exact ⟨c, 0, Or.inl ⟨rfl, Or.inl ⟨h1, rfl, hc⟩⟩⟩
  · rw [if_pos rfl, m_isD]
    obtain ⟨y2, e2, h2⟩ := c_isD (V := dv_u (dv_u W a 17 T k) a 16 T 0) (b := b)
    rw [dv_bn2 e2]
    rcases h2 with ⟨rfl, h2⟩ | ⟨rfl, h2⟩
    · have hd : ∀ z, k ≤ z → z < q → isd (W a 11 z) := Classical.not_not.mp (fun z => hz ⟨h2, z⟩)
      rw [if_neg (by decide), bq, m_169d h2 (by omega) (fun z z0 z1 => by rw [E11]; exact hd z z0 z1) (E 50) (E16 50), E11]
      exact ⟨50, _, Or.inl ⟨rfl, Or.inr (Or.inl ⟨h2, fun _ => ⟨rfl, rfl⟩⟩)⟩⟩
    · rw [if_pos rfl, bq, bq, bq, m_169n h2 hq (E _), M0]
      exact ⟨_, 0, Or.inl ⟨rfl, Or.inr (Or.inr ⟨h1, h2, rfl, rfl⟩)⟩⟩
theorem m_step (hT : W a 18 0 = T) (hk : k < L) (h32 : W a 11 k ≠ 32) : ∃ c v to : Int, f_X12_splits_7b (W, a, L, k) = Sum.inl (M4 W a T k c v, a, L, to) ∧ ((isl (W a 11 k) ∧ rn isl (W a 11) L (k + 1) to ∧ v = 0 ∧ f_X12_wordOf (dv_u (dv_u W a 17 T k) a 16 T 0) a k to = (c, ())) ∨ (isd (W a 11 k) ∧ rn isd (W a 11) L (k + 1) to ∧ c = 50 ∧ v = vlR (W a 11) k (to - k).toNat) ∨ (¬ isl (W a 11 k) ∧ ¬ isd (W a 11 k) ∧ to = k + 1 ∧ c = 100 + dv_and (W a 11 k) 255 ∧ v = 0)) := by
  rw [f_X12_splits_7e]
  unfold f_X12_splits_7c
  rw [if_neg (by omega), bq, if_pos h32, bq, m_isS]
  obtain ⟨y, e1, h1⟩ := c_isL (V := W) (b := W a 11 k)
  obtain ⟨y2, e2, h2⟩ := c_isD (V := W) (b := W a 11 k)
  rw [dv_bn2 e1]
  rcases h1 with ⟨rfl, h1⟩ | ⟨rfl, h1⟩
  · have hnd : ¬ isd (W a 11 k) := by unfold isl at h1; unfold isd; omega
    have y0 : y2 = 0 := by rcases h2 with h2 | h2; exact absurd h2.2 hnd; exact h2.1
    obtain ⟨to, e3, h3⟩ := m_43 (W := W) (b := W a 11 k) (a := a) (k := k) (f := k + 1) (L := L) (by omega)
    have h30 := h3.1
    rw [if_neg (by decide), e3]
    unfold f_X12_splits_68
    rw [m_isD, dv_bn2 e2, if_pos y0]
    obtain ⟨c, v, ⟨e4, h4⟩ | h4⟩ := m_100 (b := W a 11 k) (L := L) (k := k) (q := to) hT (by omega)
    · rcases h4 with ⟨-, h4, h5⟩ | h4 | h4
      · exact ⟨c, v, to, e4, Or.inl ⟨h1, h3, h4, h5⟩⟩
      · exact absurd h4.1 hnd
      · exact absurd h1 h4.1
    · exact absurd h4.1 hnd
  · rw [if_pos rfl]
    unfold f_X12_splits_68
    rw [m_isD, dv_bn2 e2]
    rcases h2 with ⟨rfl, h2⟩ | ⟨rfl, h2⟩
    · obtain ⟨to, e3, h3⟩ := m_75 (W := W) (b := W a 11 k) (a := a) (k := k) (f := k + 1) (L := L) (by omega)
      have h30 := h3.1
      have hd : ∀ z, k ≤ z → z < to → isd (W a 11 z) := by
        intro z z0 z1
        by_cases q : z = k
        · rw [q]; exact h2
        · exact h3.2.2.1 z (by omega) z1
      rw [if_neg (by decide), e3]
      obtain ⟨c, v, ⟨e4, h4⟩ | h4⟩ := m_100 (b := W a 11 k) (L := L) (k := k) (q := to) hT (by omega)
      · rcases h4 with h4 | h4 | h4
        · exact absurd h4.1 h1
        · exact ⟨c, v, to, e4, Or.inr (Or.inl ⟨h2, h3, h4.2 hd⟩)⟩
        · exact absurd h2 h4.2.1
      · exact absurd hd h4.2
    · rw [if_pos rfl]
      obtain ⟨c, v, ⟨e4, h4⟩ | h4⟩ := m_100 (b := W a 11 k) (L := L) (k := k) (q := k + 1) hT (by omega)
      · rcases h4 with h4 | h4 | h4
        · exact absurd h4.1 h1
        · exact absurd h4.1 h2
        · exact ⟨c, v, k + 1, e4, Or.inr (Or.inr ⟨h1, h2, rfl, h4.2.2⟩)⟩
      · exact absurd h4.1 h2
theorem and255 : ∀ i : Fin 256, dv_and (if (i.1 : Int) < 128 then (i.1 : Int) else (i.1 : Int) - 256) 255 = (i.1 : Int) := by decide +kernel
/-- a byte in both -/
def byr (b b' : Int) : Prop := (0 ≤ b ∧ b ≤ 255) ∧ b' = if b < 128 then b else b - 256
theorem byr_l {b b' : Int} (h : byr b b') : isl b ↔ isl b' := by unfold byr at h; unfold isl; split at h <;> omega
theorem byr_d {b b' : Int} (h : byr b b') : isd b ↔ isd b' := by unfold byr at h; unfold isd; split at h <;> omega
theorem byr_32 {b b' : Int} (h : byr b b') : b = 32 ↔ b' = 32 := by unfold byr at h; split at h <;> omega
theorem byr_and {b b' : Int} (h : byr b b') : dv_and b' 255 = b := by
  have h1 := and255 ⟨b.toNat, by unfold byr at h; omega⟩
  have h2 : ((b.toNat : Nat) : Int) = b := by unfold byr at h; omega
  dsimp only at h1
  rw [h2] at h1
  rw [h.2]; exact h1
theorem byr_s {b b' : Int} (h : byr b b') (h1 : isl b ∨ isd b) : b' = b := by unfold byr at h; unfold isl isd at h1; split at h <;> omega
/-- one token in both -/
theorem b_step (htp : V r 2 0 ≠ r) (hL : V (V r 2 0) 1 0 = L) (hp0 : 0 ≤ p) (hp : p < L) (hn : n < 400) (h32 : V (V r 2 0) 0 p ≠ 32) (hB : ∀ z, 0 ≤ z → z < L → byr (V (V r 2 0) 0 z) (W a 11 z)) (h7 : ∀ z, 0 ≤ z → z < 127 → W a 7 z = WT.getD z.toNat 0) (hT : W a 18 0 = T) : ∃ t c v to : Int, f_X5_scan_6b (V, r, f, p, n) = Sum.inl (dv_u (dv_u V r 1 f p) r 0 f t, r, f + 1, to, n + 1) ∧ f_X12_splits_7b (W, a, L, p) = Sum.inl (M4 W a T p c v, a, L, to) ∧ rd_tk t c v ∧ t ≠ -1 ∧ p + rd_w t ≤ to ∧ to ≤ L := by
  have hb := hB p hp0 hp
  obtain ⟨t, to, e1, h1⟩ := c_step (f := f) htp hL hp hn h32 hb.1
  obtain ⟨c, v, to', e2, h2⟩ := m_step (L := L) (k := p) hT hp (fun q => h32 ((byr_32 hb).mpr q))
  have sg : ∀ t : Int, t ≠ 312 → t ≠ 313 → rd_w t = 1 := fun t h h' => by unfold rd_w; rw [if_neg h, if_neg h']
  rcases h1 with ⟨g1, g2, g3⟩ | ⟨g1, g2, g3⟩ | ⟨g1, g1', g2, g3⟩
  · rcases h2 with ⟨-, k2, rfl, k3⟩ | ⟨k1, -⟩ | ⟨k1, -⟩
    · have ht : to = to' := rn_u g2 k2 (fun z z0 z1 => byr_l (hB z (by omega) z1))
      subst ht
      obtain ⟨l1, l2, l3, -⟩ := g2
      have v2 : dv_u V r 1 f p r 2 0 = V r 2 0 := u_j (by decide)
      obtain ⟨t', c', f1, f2, f3⟩ := q_words (V := dv_u V r 1 f p) (r := r) (p := p) (q := to) (W := dv_u (dv_u W a 17 T p) a 16 T 0) (a := a) (fun z z0 z1 => by rw [u_j (by decide), u_j (by decide)]; exact h7 z z0 z1) (fun z z0 z1 => by
        rw [v2, u_b htp, u_j (by decide), u_j (by decide)]
        refine (byr_s (hB z (by omega) (by omega)) (Or.inl ?_)).symm
        by_cases q : z = p
        · rw [q]; exact g1
        · exact l3 z (by omega) z1)
      rw [g3] at f1
      rw [k3] at f2
      have et : t = t' := congrArg Prod.fst f1
      have ec : c = c' := congrArg Prod.fst f2
      subst et
      subst ec
      refine ⟨t, c, 0, to, e1, e2, ?_, ?_, ?_, l2⟩
      · rcases f3 with ⟨f3, -⟩ | f3
        · unfold rd_tk; exact Or.inr (Or.inr (Or.inr (Or.inl f3)))
        · unfold rd_tk; exact Or.inr (Or.inl f3)
      · rcases f3 with ⟨f3, -⟩ | f3
        · unfold rd_wp at f3; omega
        · omega
      · rcases f3 with ⟨-, f4, f5⟩ | f3
        · unfold rd_w
          by_cases q : t = 312
          · rw [if_pos q]; have := f4 q; omega
          · rw [if_neg q]
            by_cases q1 : t = 313
            · rw [if_pos q1]; have := f5 q1; omega
            · rw [if_neg q1]; omega
        · rw [sg t (by omega) (by omega)]; omega
    · exact absurd ((byr_d hb).mpr k1) (by unfold isl at g1; unfold isd; omega)
    · exact absurd ((byr_l hb).mp g1) k1
  · rcases h2 with ⟨k1, -⟩ | ⟨-, k2, rfl, k3⟩ | ⟨-, k1, -⟩
    · exact absurd ((byr_l hb).mpr k1) (by unfold isd at g1; unfold isl; omega)
    · have ht : to = to' := rn_u g2 k2 (fun z z0 z1 => byr_d (hB z (by omega) z1))
      subst ht
      obtain ⟨l1, l2, l3, -⟩ := g2
      have hr := vl_rel (b := V (V r 2 0) 0) (b' := W a 11) (p := p) (to - p).toNat (fun z z0 z1 => by
        have hz : isd (V (V r 2 0) 0 z) := by
          by_cases q : z = p
          · rw [q]; exact g1
          · exact l3 z (by omega) (by omega)
        exact ⟨hz, byr_s (hB z (by omega) (by omega)) (Or.inr hz)⟩)
      rw [← k3] at hr
      refine ⟨t, 50, v, to, e1, e2, ?_, by omega, by rw [sg t (by omega) (by omega)]; omega, l2⟩
      unfold rd_tk; exact Or.inr (Or.inr (Or.inr (Or.inr ⟨by omega, rfl, by omega⟩)))
    · exact absurd ((byr_d hb).mp g1) k1
  · rcases h2 with ⟨k1, -⟩ | ⟨k1, -⟩ | ⟨-, -, rfl, rfl, rfl⟩
    · exact absurd ((byr_l hb).mpr k1) g1
    · exact absurd ((byr_d hb).mpr k1) g1'
    · subst g2
      subst g3
      rw [byr_and hb] at e2
      exact ⟨_, _, _, _, e1, e2, by unfold rd_tk; exact Or.inr (Or.inr (Or.inl ⟨hb.1, rfl⟩)), by have := hb.1; omega, by rw [sg _ (by have := hb.1; omega) (by have := hb.1; omega)]; omega, by omega⟩
end QSD
section QSE
variable {V V' V1 V2 W W' W1 W2 : dV} {r x a i t c v p q k w f n L b T to N o : Int} {j : Nat} {tk pl cd vl : Int → Int}
/-- the tokens found so far, the next byte is p -/
def sc_I (V W : dV) (r a f p : Int) : Prop := ∀ i, 0 ≤ i → i < f → rd_tk (V r 0 i) (W a 15 i) (W a 16 i) ∧ (0 ≤ V r 1 i ∧ V r 1 i ≤ 400) ∧ V r 0 i ≠ -1 ∧ V r 1 i + rd_w (V r 0 i) ≤ (if i + 1 < f then V r 1 (i + 1) else p)
def sc_f (r : Int) (V V' : dV) : Prop := ∀ b m z, ¬ (b = r ∧ (m = 0 ∨ m = 1)) → V' b m z = V b m z
def sm_f (a : Int) (W W' : dV) : Prop := ∀ b m z, ¬ (b = a ∧ (m = 15 ∨ m = 16 ∨ m = 17 ∨ m = 18)) → W' b m z = W b m z
theorem M4_f : sm_f a W (M4 W a T k c v) := fun b m z h => by
  unfold M4
  rw [show dv_u (dv_u (dv_u (dv_u (dv_u W a 17 T k) a 16 T 0) a 15 T c) a 16 T v) a 18 0 (T + 1) b m z = dv_u (dv_u (dv_u (dv_u W a 17 T k) a 16 T 0) a 15 T c) a 16 T v b m z from by unfold dv_u; rw [if_neg (fun q => h ⟨q.1, by omega⟩)]]
  rw [show dv_u (dv_u (dv_u (dv_u W a 17 T k) a 16 T 0) a 15 T c) a 16 T v b m z = dv_u (dv_u (dv_u W a 17 T k) a 16 T 0) a 15 T c b m z from by unfold dv_u; rw [if_neg (fun q => h ⟨q.1, by omega⟩)]]
  rw [show dv_u (dv_u (dv_u W a 17 T k) a 16 T 0) a 15 T c b m z = dv_u (dv_u W a 17 T k) a 16 T 0 b m z from by unfold dv_u; rw [if_neg (fun q => h ⟨q.1, by omega⟩)]]
  rw [show dv_u (dv_u W a 17 T k) a 16 T 0 b m z = dv_u W a 17 T k b m z from by unfold dv_u; rw [if_neg (fun q => h ⟨q.1, by omega⟩)]]
  unfold dv_u
  rw [if_neg (fun q => h ⟨q.1, by omega⟩)]
theorem M4_18 : M4 W a T k c v a 18 0 = T + 1 := u_e
theorem M4_17 : M4 W a T k c v a 17 i = if i = T then k else W a 17 i := by
  unfold M4
  rw [u_j (by decide), u_j (by decide), u_j (by decide), u_j (by decide)]
  by_cases e : i = T
  · rw [if_pos e, e, u_e]
  · rw [if_neg e, u_i e]
theorem M4_16 : M4 W a T k c v a 16 i = if i = T then v else W a 16 i := by
  unfold M4
  rw [u_j (by decide)]
  by_cases e : i = T
  · rw [if_pos e, e, u_e]
  · rw [if_neg e, u_i e, u_j (by decide), u_i e, u_j (by decide)]
theorem M4_15 : M4 W a T k c v a 15 i = if i = T then c else W a 15 i := by
  unfold M4
  rw [u_j (by decide), u_j (by decide)]
  by_cases e : i = T
  · rw [if_pos e, e, u_e]
  · rw [if_neg e, u_i e, u_j (by decide), u_j (by decide)]
/-- the tape, the words, and the places, the same in both -/
def sc_B (V W : dV) (r a L : Int) : Prop := V r 2 0 ≠ r ∧ V (V r 2 0) 1 0 = L ∧ (0 ≤ L ∧ L ≤ 400) ∧ (∀ z, 0 ≤ z → z < L → byr (V (V r 2 0) 0 z) (W a 11 z)) ∧ (∀ z, 0 ≤ z → z < 127 → W a 7 z = WT.getD z.toNat 0)
theorem sc_B_f (h : sc_B V W r a L) (f : sc_f r V V') (g : sm_f a W W') : sc_B V' W' r a L := by
  obtain ⟨h1, h2, h3, h4, h5⟩ := h
  have e2 : V' r 2 0 = V r 2 0 := f r 2 0 (fun q => absurd q.2 (by decide))
  have et : ∀ m z, V' (V r 2 0) m z = V (V r 2 0) m z := fun m z => f _ m z (fun q => h1 q.1)
  exact ⟨by rw [e2]; exact h1, by rw [e2, et]; exact h2, h3, fun z z0 z1 => by rw [e2, et, g a 11 z (fun q => absurd q.2 (by decide))]; exact h4 z z0 z1, fun z z0 z1 => by rw [g a 7 z (fun q => absurd q.2 (by decide))]; exact h5 z z0 z1⟩
theorem u_if {a : Int} {y z : Int} : dv_u V a j i y a j z = if z = i then y else V a j z := by
  by_cases e : z = i
  · rw [if_pos e, e, u_e]
  · rw [if_neg e, u_i e]
theorem sc_f_t (h : sc_f r V V') (h1 : sc_f r V' V1) : sc_f r V V1 := fun b j z k => (h1 b j z k).trans (h b j z k)
theorem sm_f_t (h : sm_f a W W') (h1 : sm_f a W' W1) : sm_f a W W1 := fun b j z k => (h1 b j z k).trans (h b j z k)
theorem sc_f_u (h : j = 0 ∨ j = 1) {y : Int} : sc_f r V (dv_u V r j i y) := fun b m z q => by
  unfold dv_u; rw [if_neg (fun e => q ⟨e.1, by rw [e.2.1]; exact h⟩)]
theorem sm_f_u (h : j = 15 ∨ j = 16 ∨ j = 17 ∨ j = 18) {y : Int} : sm_f a W (dv_u W a j i y) := fun b m z q => by
  unfold dv_u; rw [if_neg (fun e => q ⟨e.1, by rw [e.2.1]; exact h⟩)]
theorem sc_end (hB : sc_B V W r a L) (hT : W a 18 0 = f) (f0 : 0 ≤ f) (fp : f ≤ L) (hpl : ∀ z, V r 1 z = W a 17 z) (hI : sc_I V W r a f L) : ∃ (V' W' : dV), f_X5_scan_6b (V, r, f, L, n) = Sum.inr (V', 0) ∧ f_X12_splits_7b (W, a, L, L) = Sum.inr (W', 0) ∧ sc_f r V V' ∧ sm_f a W W' ∧ W' a 18 0 = f ∧ rd_ts (V' r 0) (V' r 1) (W' a 15) (W' a 16) f ∧ ∀ z, V' r 1 z = W' a 17 z := by
  obtain ⟨h1, h2, h3, h4, h5⟩ := hB
  have eV : f_X5_scan_6b (V, r, f, L, n) = Sum.inr (dv_u (dv_u V r 0 f (-1)) r 1 f L, 0) := by
    have e : f_X5_scan_142 V r f = Sum.inr (dv_u (dv_u V r 0 f (-1)) r 1 f L, 0) := by
      unfold f_X5_scan_142
      have x2 : dv_u V r 0 f (-1) r 2 0 = V r 2 0 := u_j (by decide)
      rw [bq, bq, bq, x2, u_b h1, h2, bq]
    rw [f_X5_scan_6e]
    unfold f_X5_scan_6c
    by_cases q : 400 ≤ n
    · rw [if_pos q, e]
    · rw [if_neg q, bq, bq, h2, if_pos (Int.le_refl _), e]
  have eW : f_X12_splits_7b (W, a, L, L) = Sum.inr (dv_u (dv_u (dv_u W a 17 f L) a 15 f 0) a 16 f 0, 0) := by
    have x1 : dv_u W a 17 f L a 18 0 = f := by rw [u_j (by decide), hT]
    have x2 : dv_u (dv_u W a 17 f L) a 15 f 0 a 18 0 = f := by rw [u_j (by decide), x1]
    rw [f_X12_splits_7e]
    unfold f_X12_splits_7c
    rw [if_pos (Int.le_refl _), bq, hT, bq, bq, x1, bq, bq, x2, bq]
  have F : sc_f r V (dv_u (dv_u V r 0 f (-1)) r 1 f L) := sc_f_t (sc_f_u (Or.inl rfl)) (sc_f_u (Or.inr rfl))
  have G : sm_f a W (dv_u (dv_u (dv_u W a 17 f L) a 15 f 0) a 16 f 0) := sm_f_t (sm_f_t (sm_f_u (by decide)) (sm_f_u (by decide))) (sm_f_u (by decide))
  have v0 : ∀ z, dv_u (dv_u V r 0 f (-1)) r 1 f L r 0 z = if z = f then -1 else V r 0 z := fun z => by rw [u_j (by decide), u_if]
  have v1 : ∀ z, dv_u (dv_u V r 0 f (-1)) r 1 f L r 1 z = if z = f then L else V r 1 z := fun z => by rw [u_if, u_j (by decide)]
  have w5 : ∀ z, dv_u (dv_u (dv_u W a 17 f L) a 15 f 0) a 16 f 0 a 15 z = if z = f then 0 else W a 15 z := fun z => by rw [u_j (by decide), u_if, u_j (by decide)]
  have w6 : ∀ z, dv_u (dv_u (dv_u W a 17 f L) a 15 f 0) a 16 f 0 a 16 z = if z = f then 0 else W a 16 z := fun z => by rw [u_if, u_j (by decide), u_j (by decide)]
  have w7 : ∀ z, dv_u (dv_u (dv_u W a 17 f L) a 15 f 0) a 16 f 0 a 17 z = if z = f then L else W a 17 z := fun z => by rw [u_j (by decide), u_j (by decide), u_if]
  have w8 : dv_u (dv_u (dv_u W a 17 f L) a 15 f 0) a 16 f 0 a 18 0 = f := by rw [u_j (by decide), u_j (by decide), u_j (by decide), hT]
  generalize dv_u (dv_u V r 0 f (-1)) r 1 f L = V' at eV F v0 v1
  generalize dv_u (dv_u (dv_u W a 17 f L) a 15 f 0) a 16 f 0 = W' at eW G w5 w6 w7 w8
  refine ⟨_, _, eV, eW, F, G, w8, ⟨⟨f0, by omega⟩, by rw [v0, if_pos rfl], fun i i0 i1 => ?_⟩, fun z => by rw [v1, w7, hpl z]⟩
  rw [v0, v1, v1, w5, w6]
  by_cases e : i = f
  · rw [if_pos e, if_pos e, if_pos e, if_pos e]
    exact ⟨by unfold rd_tk; exact Or.inl ⟨rfl, rfl⟩, h3, fun q => absurd q (by omega)⟩
  · obtain ⟨k1, k2, k3, k4⟩ := hI i i0 (by omega)
    rw [if_neg e, if_neg e, if_neg e, if_neg e]
    refine ⟨k1, k2, fun _ => ⟨k3, ?_⟩⟩
    by_cases e1 : i + 1 = f
    · rw [if_pos e1]
      rw [if_neg (by omega)] at k4
      exact k4
    · rw [if_neg e1]
      rw [if_pos (by omega)] at k4
      exact k4
/-- both find the same tokens -/
theorem sc_L (m : Nat) : ∀ (V W : dV) (f p n : Int), L - p ≤ m → sc_B V W r a L → W a 18 0 = f → 0 ≤ f → f ≤ p → n ≤ p → p ≤ L → (∀ z, V r 1 z = W a 17 z) → sc_I V W r a f p → ∃ (V' W' : dV), dv_lp f_X5_scan_6b (V, r, f, p, n) = (V', 0) ∧ dv_lp f_X12_splits_7b (W, a, L, p) = (W', 0) ∧ sc_f r V V' ∧ sm_f a W W' ∧ rd_ts (V' r 0) (V' r 1) (W' a 15) (W' a 16) (W' a 18 0) ∧ ∀ z, V' r 1 z = W' a 17 z := by
  induction m with
  | zero =>
    intro V W f p n hm hB hT f0 fp np pL hpl hI
    have e : p = L := by omega
    subst e
    obtain ⟨V', W', e1, e2, e3, e4, e5, e6, e7⟩ := sc_end (n := n) hB hT f0 fp hpl hI
    exact ⟨V', W', dv_lp_e e1, dv_lp_e e2, e3, e4, by rw [e5]; exact e6, e7⟩
  | succ m ih =>
    intro V W f p n hm hB hT f0 fp np pL hpl hI
    by_cases e : p = L
    · subst e
      obtain ⟨V', W', e1, e2, e3, e4, e5, e6, e7⟩ := sc_end (n := n) hB hT f0 fp hpl hI
      exact ⟨V', W', dv_lp_e e1, dv_lp_e e2, e3, e4, by rw [e5]; exact e6, e7⟩
    · obtain ⟨h1, h2, h3, h4, h5⟩ := id hB
      by_cases h32 : V (V r 2 0) 0 p = 32
      · have e1 : f_X5_scan_6b (V, r, f, p, n) = Sum.inl (V, r, f, p + 1, n + 1) := by
          rw [f_X5_scan_6e]
          unfold f_X5_scan_6c f_X5_scan_133
          rw [if_neg (by omega), bq, bq, h2, if_neg (by omega), bq, bq, bq, if_pos h32, bq]
        have e2 : f_X12_splits_7b (W, a, L, p) = Sum.inl (W, a, L, p + 1) := by
          rw [f_X12_splits_7e]
          unfold f_X12_splits_7c
          rw [if_neg (by omega), bq, if_neg (fun q => q ((byr_32 (h4 p (by omega) (by omega))).mp h32)), bq]
        obtain ⟨V', W', g1, g2, g⟩ := ih V W f (p + 1) (n + 1) (by omega) hB hT f0 (by omega) (by omega) (by omega) hpl (fun i i0 i1 => by
          obtain ⟨k1, k2, k3, k4⟩ := hI i i0 i1
          refine ⟨k1, k2, k3, ?_⟩
          by_cases q : i + 1 < f
          · rw [if_pos q] at k4 ⊢; exact k4
          · rw [if_neg q] at k4 ⊢; omega)
        exact ⟨V', W', by rw [dv_lp_s e1, g1], by rw [dv_lp_s e2, g2], g⟩
      · obtain ⟨t, c, v, to, e1, e2, e3, e4, e5, e6⟩ := b_step (f := f) (n := n) h1 h2 (by omega) (by omega) (by omega) h32 h4 h5 hT
        have hw := @rd_w1 t
        have F : sc_f r V (dv_u (dv_u V r 1 f p) r 0 f t) := sc_f_t (sc_f_u (Or.inr rfl)) (sc_f_u (Or.inl rfl))
        have v0 : ∀ z, dv_u (dv_u V r 1 f p) r 0 f t r 0 z = if z = f then t else V r 0 z := fun z => by
          by_cases q : z = f
          · rw [if_pos q, q, u_e]
          · rw [if_neg q, u_i q, u_j (by decide)]
        have v1 : ∀ z, dv_u (dv_u V r 1 f p) r 0 f t r 1 z = if z = f then p else V r 1 z := fun z => by
          rw [u_j (by decide)]
          by_cases q : z = f
          · rw [if_pos q, q, u_e]
          · rw [if_neg q, u_i q]
        generalize dv_u (dv_u V r 1 f p) r 0 f t = V1 at e1 F v0 v1
        have G := M4_f (W := W) (a := a) (T := f) (k := p) (c := c) (v := v)
        obtain ⟨V', W', g1, g2, g3, g4, g5⟩ := ih V1 (M4 W a f p c v) (f + 1) to (n + 1) (by omega) (sc_B_f hB F G) M4_18 (by omega) (by omega) (by omega) e6 (fun z => by
          rw [v1, M4_17]
          by_cases q : z = f
          · rw [if_pos q, if_pos q]
          · rw [if_neg q, if_neg q]; exact hpl z) (fun i i0 i1 => by
          rw [v0, v1, v1, M4_15, M4_16]
          by_cases q : i = f
          · rw [if_pos q, if_pos q, if_pos q, if_pos q, if_neg (show ¬ i + 1 < f + 1 by omega)]
            exact ⟨e3, by omega, e4, e5⟩
          · obtain ⟨k1, k2, k3, k4⟩ := hI i i0 (by omega)
            rw [if_neg q, if_neg q, if_neg q, if_neg q, if_pos (show i + 1 < f + 1 by omega)]
            refine ⟨k1, k2, k3, ?_⟩
            by_cases q1 : i + 1 = f
            · rw [if_pos q1]; rw [if_neg (by omega)] at k4; exact k4
            · rw [if_neg q1]; rw [if_pos (by omega)] at k4; exact k4)
        exact ⟨V', W', by rw [dv_lp_s e1, g1], by rw [dv_lp_s e2, g2], sc_f_t F g3, sm_f_t G g4, g5⟩
theorem sc_both (hB : sc_B V W r a L) (hpl : ∀ z, V r 1 z = W a 17 z) : ∃ (V' W' : dV), f_X5_scan V r = (V', 0) ∧ f_X12_splits W a L = (W', 0) ∧ sc_f r V V' ∧ sm_f a W W' ∧ rd_ts (V' r 0) (V' r 1) (W' a 15) (W' a 16) (W' a 18 0) ∧ ∀ z, V' r 1 z = W' a 17 z := by
  have G : sm_f a W (dv_u W a 18 0 0) := sm_f_u (by decide)
  obtain ⟨V', W', g1, g2, g3, g4, g5, g6⟩ := sc_L (r := r) (a := a) (L := L) L.toNat V (dv_u W a 18 0 0) 0 0 0 (by omega) (sc_B_f hB (fun _ _ _ _ => rfl) G) u_e (by decide) (by decide) (by decide) hB.2.2.1.1 (fun z => by rw [u_j (by decide)]; exact hpl z) (fun i i0 i1 => absurd i1 (by omega))
  refine ⟨V', W', ?_, ?_, g3, sm_f_t G g4, g5, g6⟩
  · unfold f_X5_scan; exact g1
  · unfold f_X12_splits; rw [bq]; exact g2
end QSE
section QSF
variable {V V' V1 V2 W W' W1 W2 : dV} {r x a i t c v p q k w f n L b T to N o tp : Int} {j : Nat} {tk pl cd vl : Int → Int}
/-- what reading leaves as it was -/
def rw_f (r x : Int) (V V' : dV) : Prop := ∀ b m z, ¬ (b = r ∧ m ≤ 8) → ¬ (b = x ∧ m ≤ 3) → V' b m z = V b m z
def rm_f (a : Int) (W W' : dV) : Prop := ∀ b m z, ¬ (b = a ∧ ((8 ≤ m ∧ m ≤ 10) ∨ (13 ≤ m ∧ m ≤ 21))) → W' b m z = W b m z
theorem rw_f_t (h : rw_f r x V V') (h1 : rw_f r x V' V1) : rw_f r x V V1 := fun b j z k k1 => (h1 b j z k k1).trans (h b j z k k1)
theorem rm_f_t (h : rm_f a W W') (h1 : rm_f a W' W1) : rm_f a W W1 := fun b j z k => (h1 b j z k).trans (h b j z k)
theorem rw_f_u (h : j ≤ 8) {y : Int} : rw_f r x V (dv_u V r j i y) := fun b m z q _ => by
  unfold dv_u; rw [if_neg (fun e => q ⟨e.1, by rw [e.2.1]; exact h⟩)]
theorem rw_f_x (h : j ≤ 3) {y : Int} : rw_f r x V (dv_u V x j i y) := fun b m z _ q => by
  unfold dv_u; rw [if_neg (fun e => q ⟨e.1, by rw [e.2.1]; exact h⟩)]
theorem rm_f_u (h : (8 ≤ j ∧ j ≤ 10) ∨ (13 ≤ j ∧ j ≤ 21)) {y : Int} : rm_f a W (dv_u W a j i y) := fun b m z q => by
  unfold dv_u; rw [if_neg (fun e => q ⟨e.1, by rw [e.2.1]; exact h⟩)]
theorem c_readS : ∃ V1 : dV, (∀ y : dR, dv_b2 (f_X5_scan V1 r) (fun V43 _ => dv_lp (f_X5_read_49b) (V43, r, 0)) = y → f_X5_read V r tp x o = y) ∧ (x ≠ r → rw_f r x V V1 ∧ V1 r 2 0 = tp ∧ V1 r 3 0 = x ∧ V1 r 4 0 = o ∧ V1 r 5 0 = 0 ∧ V1 r 6 0 = 0 ∧ V1 r 7 0 = 0 ∧ V1 r 8 0 = -1 ∧ V1 x 2 0 = 0 ∧ V1 x 3 0 = 0 ∧ ∀ z, V1 r 1 z = V r 1 z) := by
  refine ⟨dv_u (dv_u (dv_u (dv_u (dv_u (dv_u (dv_u (dv_u (dv_u V r 2 0 tp) r 3 0 x) r 4 0 o) r 5 0 0) r 6 0 0) r 7 0 0) r 8 0 (-1)) x 2 0 0) x 3 0 0, fun y hy => ?_, fun hx => ?_⟩
  · have x3 : dv_u (dv_u (dv_u (dv_u (dv_u (dv_u (dv_u V r 2 0 tp) r 3 0 x) r 4 0 o) r 5 0 0) r 6 0 0) r 7 0 0) r 8 0 (-1) r 3 0 = x := by
      rw [u_j (by decide), u_j (by decide), u_j (by decide), u_j (by decide), u_j (by decide), u_e]
    unfold f_X5_read f_X10_clear
    rw [bq, bq, bq, bq, bq, bq, bq, bq, x3, bq, bq, dv_bn2 rfl]
    exact hy
  · refine ⟨rw_f_t (rw_f_t (rw_f_t (rw_f_t (rw_f_t (rw_f_t (rw_f_t (rw_f_t (rw_f_u (by decide)) (rw_f_u (by decide))) (rw_f_u (by decide))) (rw_f_u (by decide))) (rw_f_u (by decide))) (rw_f_u (by decide))) (rw_f_u (by decide))) (rw_f_x (by decide))) (rw_f_x (by decide)), ?_, ?_, ?_, ?_, ?_, ?_, ?_, ?_, u_e, fun z => ?_⟩
    · rw [u_b (Ne.symm hx), u_b (Ne.symm hx), u_j (by decide), u_j (by decide), u_j (by decide), u_j (by decide), u_j (by decide), u_j (by decide), u_e]
    · rw [u_b (Ne.symm hx), u_b (Ne.symm hx), u_j (by decide), u_j (by decide), u_j (by decide), u_j (by decide), u_j (by decide), u_e]
    · rw [u_b (Ne.symm hx), u_b (Ne.symm hx), u_j (by decide), u_j (by decide), u_j (by decide), u_j (by decide), u_e]
    · rw [u_b (Ne.symm hx), u_b (Ne.symm hx), u_j (by decide), u_j (by decide), u_j (by decide), u_e]
    · rw [u_b (Ne.symm hx), u_b (Ne.symm hx), u_j (by decide), u_j (by decide), u_e]
    · rw [u_b (Ne.symm hx), u_b (Ne.symm hx), u_j (by decide), u_e]
    · rw [u_b (Ne.symm hx), u_b (Ne.symm hx), u_e]
    · rw [u_j (by decide), u_e]
    · rw [u_b (Ne.symm hx), u_b (Ne.symm hx), u_j (by decide), u_j (by decide), u_j (by decide), u_j (by decide), u_j (by decide), u_j (by decide), u_j (by decide)]
/-- a whole text is read the same way -/
theorem rd_whole (hx : x ≠ r) (ht : tp ≠ r) (hxt : tp ≠ x) (ho : o = 0 ∨ o = 1) (hL : V tp 1 0 = W a 13 0) (hL4 : 0 ≤ W a 13 0 ∧ W a 13 0 ≤ 400) (hB : ∀ z, 0 ≤ z → z < W a 13 0 → byr (V tp 0 z) (W a 11 z)) (h7 : ∀ z, 0 ≤ z → z < 127 → W a 7 z = WT.getD z.toNat 0) (hpl : ∀ z, V r 1 z = W a 17 z) : ∃ (V' : dV) (y : Int) (W' : dV) (y' : Int), f_X5_read V r tp x o = (V', y) ∧ f_X12_readsAs W a o = (W', y') ∧ rw_f r x V V' ∧ rm_f a W W' ∧ W' a 13 0 = 0 ∧ W' a 14 0 = y ∧ (∀ z, V' r 1 z = W' a 17 z) ∧ ((y = -1 ∧ y' = 1 ∧ 0 ≤ V' x 2 0 ∧ (0 ≤ W' a 18 0 ∧ W' a 18 0 ≤ 400) ∧ W' a 15 (W' a 18 0) = 0 ∧ tx_ok o (W' a 15) (W' a 16) (V' x 0) (V' x 1) (V' x 2 0) (W' a 18 0) (V' x 3 0)) ∨ (y ≠ -1 ∧ y' = 0)) := by
  obtain ⟨V1, eV, fV⟩ := c_readS (V := V) (r := r) (tp := tp) (x := x) (o := o)
  obtain ⟨g1, g2, g3, g4, g5, g6, g7, g8, g9, g10, g11⟩ := fV hx
  -- the reference's first steps
  obtain ⟨W1, eW, G1, k8, k11, k12, k13⟩ : ∃ W1 : dV, (∀ (U : dV) (y : Int), f_X12_reads W1 a = (U, y) → f_X12_readsAs W a o = (U, y)) ∧ rm_f a W W1 ∧ (∀ m z, m ≠ 8 → m ≠ 9 → m ≠ 10 → W1 a m z = W a m z) ∧ W1 a 10 0 = o ∧ (o = 0 → W1 a 8 0 = 8 ∧ W1 a 9 0 = 15) ∧ (o = 1 → W1 a 8 0 = 14 ∧ W1 a 9 0 = 20) := by
    rcases ho with rfl | rfl
    · refine ⟨dv_u (dv_u (dv_u W a 10 0 0) a 8 0 8) a 9 0 15, fun U y h => ?_, rm_f_t (rm_f_t (rm_f_u (by decide)) (rm_f_u (by decide))) (rm_f_u (by decide)), fun m z h8 h9 h10 => by rw [u_j h9, u_j h8, u_j h10], by rw [u_j (by decide), u_j (by decide), u_e], fun _ => ⟨by rw [u_j (by decide), u_e], u_e⟩, fun q => absurd q (by decide)⟩
      unfold f_X12_readsAs
      rw [bq, if_pos rfl, bq, if_pos rfl, bq, dv_bn2 h]
    · refine ⟨dv_u (dv_u (dv_u W a 10 0 1) a 8 0 14) a 9 0 20, fun U y h => ?_, rm_f_t (rm_f_t (rm_f_u (by decide)) (rm_f_u (by decide))) (rm_f_u (by decide)), fun m z h8 h9 h10 => by rw [u_j h9, u_j h8, u_j h10], by rw [u_j (by decide), u_j (by decide), u_e], fun q => absurd q (by decide), fun _ => ⟨by rw [u_j (by decide), u_e], u_e⟩⟩
      unfold f_X12_readsAs
      rw [bq, if_neg (by decide), bq, if_neg (by decide), bq, dv_bn2 h]
  have t1 : ∀ m z, V1 tp m z = V tp m z := fun m z => g1 tp m z (fun q => ht q.1) (fun q => hxt q.1)
  have hB1 : sc_B V1 W1 r a (W a 13 0) := ⟨by rw [g2]; exact ht, by rw [g2, t1]; exact hL, hL4, fun z z0 z1 => by rw [g2, t1, k8 11 z (by decide) (by decide) (by decide)]; exact hB z z0 z1, fun z z0 z1 => by rw [k8 7 z (by decide) (by decide) (by decide)]; exact h7 z z0 z1⟩
  obtain ⟨V2, W2, e1, e2, F2, G2, ts, pl2⟩ := sc_both hB1 (fun z => by rw [g11, k8 17 z (by decide) (by decide) (by decide)]; exact hpl z)
  have v2 : ∀ m z, m ≠ 0 → m ≠ 1 → V2 r m z = V1 r m z := fun m z h0 h1 => F2 r m z (fun q => by have := q.2; omega)
  have x2 : ∀ m z, V2 x m z = V1 x m z := fun m z => F2 x m z (fun q => hx q.1)
  have w2 : ∀ m z, m ≠ 15 → m ≠ 16 → m ≠ 17 → m ≠ 18 → W2 a m z = W1 a m z := fun m z h0 h1 h2 h3 => G2 a m z (fun q => by have := q.2; omega)
  -- the reference's start
  have G3 : rm_f a W2 (dv_u (dv_u (dv_u (dv_u W2 a 13 0 0) a 19 0 0) a 20 0 0) a 21 0 (-1)) := rm_f_t (rm_f_t (rm_f_t (rm_f_u (by decide)) (rm_f_u (by decide))) (rm_f_u (by decide))) (rm_f_u (by decide))
  have y21 : dv_u (dv_u (dv_u (dv_u W2 a 13 0 0) a 19 0 0) a 20 0 0) a 21 0 (-1) a 21 0 = -1 := u_e
  have y20 : dv_u (dv_u (dv_u (dv_u W2 a 13 0 0) a 19 0 0) a 20 0 0) a 21 0 (-1) a 20 0 = 0 := by rw [u_j (by decide), u_e]
  have y19 : dv_u (dv_u (dv_u (dv_u W2 a 13 0 0) a 19 0 0) a 20 0 0) a 21 0 (-1) a 19 0 = 0 := by rw [u_j (by decide), u_j (by decide), u_e]
  have y13 : dv_u (dv_u (dv_u (dv_u W2 a 13 0 0) a 19 0 0) a 20 0 0) a 21 0 (-1) a 13 0 = 0 := by rw [u_j (by decide), u_j (by decide), u_j (by decide), u_e]
  have ym : ∀ m z, m ≠ 13 → m ≠ 19 → m ≠ 20 → m ≠ 21 → dv_u (dv_u (dv_u (dv_u W2 a 13 0 0) a 19 0 0) a 20 0 0) a 21 0 (-1) a m z = W2 a m z := fun m z h1 h2 h3 h4 => by rw [u_j h4, u_j h3, u_j h2, u_j h1]
  have eR : ∀ (U W4 : dV) (y y4 : Int), f_X12_readOne (dv_u (dv_u (dv_u (dv_u W2 a 13 0 0) a 19 0 0) a 20 0 0) a 21 0 (-1)) a = (U, y) → dv_lp f_X12_reads_34b (U, a, 1) = (W4, y4) → f_X12_reads W1 a = (W4, y4) := by
    intro U W4 y y4 h1 h2
    unfold f_X12_reads
    rw [bq, k8 13 0 (by decide) (by decide) (by decide), dv_bn2 e2, bq, bq, bq, bq, dv_bn2 h1, h2]
  generalize dv_u (dv_u (dv_u (dv_u W2 a 13 0 0) a 19 0 0) a 20 0 0) a 21 0 (-1) = W3 at G3 y21 y20 y19 y13 ym eR
  have n18 : W3 a 18 0 = W2 a 18 0 := ym 18 0 (by decide) (by decide) (by decide) (by decide)
  have cx : rd_cx o (V2 r 0) (V2 r 1) V2 r x := ⟨fun _ => rfl, fun _ => rfl, by rw [v2 3 0 (by decide) (by decide), g3], by rw [v2 4 0 (by decide) (by decide), g4], hx, ho⟩
  have kx : re_cx o (W2 a 15) (W2 a 16) (V2 r 1) W3 a := by
    refine ⟨fun z => ym 15 z (by decide) (by decide) (by decide) (by decide), fun z => ym 16 z (by decide) (by decide) (by decide) (by decide), fun z => by rw [ym 17 z (by decide) (by decide) (by decide) (by decide), pl2], ?_, fun q => ?_, fun q => ?_⟩
    · rw [ym 10 0 (by decide) (by decide) (by decide) (by decide), w2 10 0 (by decide) (by decide) (by decide) (by decide), k11]
    · rw [ym 8 0 (by decide) (by decide) (by decide) (by decide), w2 8 0 (by decide) (by decide) (by decide) (by decide), ym 9 0 (by decide) (by decide) (by decide) (by decide), w2 9 0 (by decide) (by decide) (by decide) (by decide)]
      exact k12 q
    · rw [ym 8 0 (by decide) (by decide) (by decide) (by decide), w2 8 0 (by decide) (by decide) (by decide) (by decide), ym 9 0 (by decide) (by decide) (by decide) (by decide), w2 9 0 (by decide) (by decide) (by decide) (by decide)]
      exact k13 q
  have z5 : V2 r 5 0 = 0 := by rw [v2 5 0 (by decide) (by decide), g5]
  have z6 : V2 r 6 0 = 0 := by rw [v2 6 0 (by decide) (by decide), g6]
  have z7 : V2 r 7 0 = 0 := by rw [v2 7 0 (by decide) (by decide), g7]
  have z8 : V2 r 8 0 = -1 := by rw [v2 8 0 (by decide) (by decide), g8]
  have zs : V2 x 2 0 = 0 := by rw [x2, g9]
  have zc : V2 x 3 0 = ((0 : Nat) : Int) := by rw [x2, g10]; rfl
  have p0 := (ts.2.2 0 (by decide) ts.1.1).2.1
  have hi : rd_in o (V2 r 0) (V2 r 1) (W2 a 15) (W2 a 16) (W2 a 18 0) V2 W3 r x a := ⟨ts, cx, kx, z8, y21, by rw [y19, z5], by rw [z5]; exact ⟨Int.le_refl 0, ts.1.1⟩, by rw [y20, z6], by rw [z6]; decide, by rw [zs]; decide, by rw [zs, z5]; exact p0.1⟩
  obtain ⟨V', y, W4, W', y', f1, f2, f3, f4, f5, f6, f7, f8⟩ := rr_L ts 11 0 V2 W3 (by decide) hi z7 zc n18 (by rw [z5]; rfl)
  have F4 : rw_f r x V2 V' := fun b m z n1 n2 => f4 b m z (fun q => n1 ⟨q.1, by omega⟩) n2
  have G4 : rm_f a W3 W' := fun b m z n1 => f5 b m z (fun q => n1 ⟨q.1, by omega⟩)
  have FF : rw_f r x V1 V2 := fun b m z n1 _ => F2 b m z (fun q => n1 ⟨q.1, by omega⟩)
  have GG : rm_f a W1 W2 := fun b m z n1 => G2 b m z (fun q => n1 ⟨q.1, by omega⟩)
  have u15 : W' a 15 = W2 a 15 := funext fun z => by rw [f5 a 15 z (fun q => absurd q.2 (by decide)), ym 15 z (by decide) (by decide) (by decide) (by decide)]
  have u16 : W' a 16 = W2 a 16 := funext fun z => by rw [f5 a 16 z (fun q => absurd q.2 (by decide)), ym 16 z (by decide) (by decide) (by decide) (by decide)]
  have u18 : W' a 18 0 = W2 a 18 0 := by rw [f5 a 18 0 (fun q => absurd q.2 (by decide)), n18]
  refine ⟨V', y, W', y', eV _ ((dv_bn2 e1).trans f1), eW _ _ (eR _ _ _ _ f2 f3), rw_f_t (rw_f_t g1 FF) F4, rm_f_t (rm_f_t (rm_f_t G1 GG) G3) G4, by rw [f5 a 13 0 (fun q => absurd q.2 (by decide)), y13], f7, fun z => ?_, ?_⟩
  · rw [f4 r 1 z (fun q => absurd q.2 (by decide)) (fun q => hx q.1.symm), f5 a 17 z (fun q => absurd q.2 (by decide)), ym 17 z (by decide) (by decide) (by decide) (by decide), pl2]
  · rcases f8 with ⟨h1, h2, h3, h4⟩ | h
    · refine Or.inl ⟨h1, h2, h3, by rw [u18]; exact ts.1, ?_, ?_⟩
      · rw [u15, u18]
        have q := (ts.2.2 _ ts.1.1 (Int.le_refl _)).1
        rw [ts.2.1] at q
        unfold rd_tk rd_wp at q; omega
      rw [u15, u16, u18]
      exact h4
    · exact Or.inr h
end QSF
section QSG
variable {o N : Int} {cd vl cd' vl' : Int → Int}
/-- cd and vl are as cd' and vl' up to N -/
def cg (N : Int) (cd vl cd' vl' : Int → Int) : Prop := (∀ z, 0 ≤ z → z ≤ N → cd' z = cd z) ∧ ∀ z, 0 ≤ z → z < N → vl' z = vl z
def pr (N : Int) (E E' : Int → Int → dn → Prop) : Prop := ∀ i j A, 0 ≤ i → E i j A → i < j ∧ (j ≤ N → E' i j A)
theorem cg_leaf (g : cg N cd vl cd' vl') : pr N (D_leaf o cd vl) (D_leaf o cd' vl') := by
  intro i j A i0 h
  have hj : i < j := by unfold D_leaf at h; omega
  refine ⟨hj, fun jN => ?_⟩
  have e1 := g.1 i i0 (by omega)
  have e2 := g.2 i i0 (by omega)
  unfold D_leaf
  rw [e1, e2]
  rcases h with h | h | h | h
  · exact Or.inl h
  · exact Or.inr (Or.inl h)
  · have e3 := g.1 (i + 1) (by omega) (by omega)
    have e4 := g.2 (i + 1) (by omega) (by omega)
    rw [e3, e4]
    exact Or.inr (Or.inr (Or.inl h))
  · exact Or.inr (Or.inr (Or.inr h))
theorem cg_ch {isop : Int → Prop} {El El' : Int → Int → dn → Prop} {op : Int → dn → dn → dn} (g : cg N cd vl cd' vl') (hE : pr N El El') : ∀ (n : Nat) (i : Int) (A : dn) (j : Int) (R : dn), 0 ≤ i → d_ch isop cd El op n i A j R → i ≤ j ∧ (j ≤ N → d_ch isop cd' El' op n i A j R) := by
  intro n
  induction n with
  | zero =>
    rintro i A j R i0 ⟨h1, h2, h3⟩
    refine ⟨by omega, fun jN => ⟨h1, h2, ?_⟩⟩
    rw [g.1 i i0 (by omega)]; exact h3
  | succ n ih =>
    rintro i A j R i0 ⟨h1, m, B, h2, h3⟩
    obtain ⟨k1, k2⟩ := hE (i + 1) m B (by omega) h2
    obtain ⟨l1, l2⟩ := ih m _ j R (by omega) h3
    refine ⟨by omega, fun jN => ⟨by rw [g.1 i i0 (by omega)]; exact h1, m, B, k2 (by omega), ?_⟩⟩
    rw [g.1 i i0 (by omega)]
    exact l2 jN
theorem cg_termF {P P' : Int → Int → dn → Prop} (g : cg N cd vl cd' vl') (hP : pr N P P') : pr N (D_termF cd P) (D_termF cd' P') := by
  rintro i j A i0 ⟨m, B, n, h1, h2⟩
  obtain ⟨k1, k2⟩ := hP i m B i0 h1
  obtain ⟨l1, l2⟩ := cg_ch g hP n m B j A (by omega) h2
  exact ⟨by omega, fun jN => ⟨m, B, n, k2 (by omega), l2 jN⟩⟩
theorem cg_sumF {P P' : Int → Int → dn → Prop} (g : cg N cd vl cd' vl') (hP : pr N P P') : pr N (D_sumF cd P) (D_sumF cd' P') := by
  rintro i j A i0 ⟨m, B, n, h1, h2⟩
  obtain ⟨k1, k2⟩ := cg_termF g hP i m B i0 h1
  obtain ⟨l1, l2⟩ := cg_ch g (cg_termF g hP) n m B j A (by omega) h2
  exact ⟨by omega, fun jN => ⟨m, B, n, k2 (by omega), l2 jN⟩⟩
theorem cg_part (g : cg N cd vl cd' vl') (d : Nat) : pr N (D_part o cd vl d) (D_part o cd' vl' d) := by
  induction d with
  | zero => exact cg_leaf g
  | succ d ih =>
    rintro i j A i0 (h | ⟨h1, h2, h3⟩)
    · obtain ⟨k1, k2⟩ := cg_leaf g i j A i0 h
      exact ⟨k1, fun jN => Or.inl (k2 jN)⟩
    · obtain ⟨k1, k2⟩ := cg_sumF g ih (i + 1) (j - 1) A (by omega) h2
      exact ⟨by omega, fun jN => Or.inr ⟨by rw [g.1 i i0 (by omega)]; exact h1, k2 (by omega), by rw [g.1 (j - 1) (by omega) (by omega)]; exact h3⟩⟩
theorem cg_sum (g : cg N cd vl cd' vl') (d : Nat) : pr N (D_sum o cd vl d) (D_sum o cd' vl' d) := cg_sumF g (cg_part g d)
theorem cg_comp (g : cg N cd vl cd' vl') (d : Nat) : pr N (D_comp o cd vl d) (D_comp o cd' vl' d) := by
  rintro i j A i0 ⟨m, B, C, h1, h2, h3, h4⟩
  obtain ⟨k1, k2⟩ := cg_sum g d i m B i0 h1
  obtain ⟨l1, l2⟩ := cg_sum g d (m + 1) j C (by omega) h3
  refine ⟨by omega, fun jN => ⟨m, B, C, k2 (by omega), ?_, l2 jN, ?_⟩⟩
  · rw [g.1 m (by omega) (by omega)]; exact h2
  · rw [g.1 m (by omega) (by omega)]; exact h4
theorem cg_plainF {P P' : Int → Int → dn → Prop} (g : cg N cd vl cd' vl') (hP : pr N P P') : pr N (D_plainF cd P) (D_plainF cd' P') := by
  rintro i j A i0 ⟨n, B, h1, h2, h3, h4⟩
  obtain ⟨k1, k2⟩ := hP (i + n) j B (by omega) h3
  exact ⟨by omega, fun jN => ⟨n, B, fun k hk => by rw [g.1 (i + k) (by omega) (by omega)]; exact h1 k hk, by rw [g.1 (i + n) (by omega) (by omega)]; exact h2, k2 jN, h4⟩⟩
theorem cg_bothF {P P' : Int → Int → dn → Prop} (g : cg N cd vl cd' vl') (hP : pr N P P') : pr N (D_bothF cd P) (D_bothF cd' P') := by
  rintro i j A i0 ⟨m, B, n, h1, h2⟩
  obtain ⟨k1, k2⟩ := cg_plainF g hP i m B i0 h1
  obtain ⟨l1, l2⟩ := cg_ch g (cg_plainF g hP) n m B j A (by omega) h2
  exact ⟨by omega, fun jN => ⟨m, B, n, k2 (by omega), l2 jN⟩⟩
theorem cg_testF {P P' : Int → Int → dn → Prop} (g : cg N cd vl cd' vl') (hP : pr N P P') : pr N (D_testF cd P) (D_testF cd' P') := by
  rintro i j A i0 ⟨m, B, n, h1, h2⟩
  obtain ⟨k1, k2⟩ := cg_bothF g hP i m B i0 h1
  obtain ⟨l1, l2⟩ := cg_ch g (cg_bothF g hP) n m B j A (by omega) h2
  exact ⟨by omega, fun jN => ⟨m, B, n, k2 (by omega), l2 jN⟩⟩
theorem cg_pos (g : cg N cd vl cd' vl') (d : Nat) : pr N (D_pos o cd vl d) (D_pos o cd' vl' d) := by
  induction d with
  | zero => exact cg_comp g 0
  | succ d ih =>
    rintro i j A i0 (h | ⟨h1, h2, h3⟩)
    · obtain ⟨k1, k2⟩ := cg_comp g (d + 1) i j A i0 h
      exact ⟨k1, fun jN => Or.inl (k2 jN)⟩
    · obtain ⟨k1, k2⟩ := cg_testF g ih (i + 1) (j - 1) A (by omega) h2
      exact ⟨by omega, fun jN => Or.inr ⟨by rw [g.1 i i0 (by omega)]; exact h1, k2 (by omega), by rw [g.1 (j - 1) (by omega) (by omega)]; exact h3⟩⟩
theorem cg_test (g : cg N cd vl cd' vl') (d : Nat) : pr N (D_test o cd vl d) (D_test o cd' vl' d) := cg_testF g (cg_pos g d)
theorem cg_bd {ns i j t0 s : Int} {X M : Int → Int} (g : cg N cd vl cd' vl') (i0 : 0 ≤ i) (jN : j ≤ N) (h : cl_bd o cd vl ns i j t0 X M s) : cl_bd o cd' vl' ns i j t0 X M s := by
  obtain ⟨m, m', h1, h2, ⟨h3, h4⟩, h5⟩ := h
  have im : i ≤ m := by
    rcases h1 with ⟨a1, a2, a3, a4, a5⟩ | ⟨a1, a2, a3, a4, A, a5, a6⟩ | ⟨a1, j1, j2, A0, A1, A2, l, D0, c0, D1, c1, D2, K0, K1, K2⟩ <;> omega
  have mm : m ≤ m' := by
    rcases h2 with ⟨b1, b2, b3⟩ | ⟨b1, b2, b3, b4, b5, b6⟩ <;> omega
  have mj : m' ≤ j := by
    rcases h3 with ⟨b1, b2, b3⟩ | ⟨b1, b2, b3⟩ <;> omega
  refine ⟨m, m', ?_, ?_, ⟨?_, h4⟩, h5⟩
  · rcases h1 with h1 | ⟨a1, a2, a3, a4, A, a5, a6⟩ | ⟨a1, j1, j2, A0, A1, A2, l, D0, c0, D1, c1, D2, K0, K1, K2⟩
    · exact Or.inl h1
    · exact Or.inr (Or.inl ⟨a1, a2, a3, a4, A, (cg_sum g 8 i m A i0 a5).2 (by omega), a6⟩)
    · exact Or.inr (Or.inr ⟨a1, j1, j2, A0, A1, A2, l, (cg_sum g 8 i j1 A0 i0 D0).2 (by omega), by rw [g.1 j1 (by omega) (by omega)]; exact c0, (cg_sum g 8 (j1 + 1) j2 A1 (by omega) D1).2 (by omega), by rw [g.1 j2 (by omega) (by omega)]; exact c1, (cg_sum g 8 (j2 + 1) m A2 (by omega) D2).2 (by omega), K0, K1, K2⟩)
  · unfold cl_tm
    rw [g.1 m (by omega) (by omega)]
    rcases h2 with h2 | ⟨b1, b2, b3, b4, b5, b6⟩
    · exact Or.inl h2
    · rw [g.1 (m + 1) (by omega) (by omega), g.2 (m + 1) (by omega) (by omega)]
      exact Or.inr ⟨b1, b2, b3, b4, b5, b6⟩
  · unfold cl_if
    rw [g.1 m' (by omega) (by omega)]
    rcases h3 with h3 | ⟨b1, b2, T, b3, b4⟩
    · exact Or.inl h3
    · exact Or.inr ⟨b1, b2, T, (cg_test g 8 (m' + 1) j T (by omega) b3).2 jN, b4⟩
theorem cg_ok {i j s : Int} {X M : Int → Int} (g : cg N cd vl cd' vl') (i0 : 0 ≤ i) (ij : i < j) (jN : j ≤ N) (h : cl_ok o cd vl i j X M s) : cl_ok o cd' vl' i j X M s := by
  unfold cl_ok
  rw [g.1 i i0 (by omega)]
  rcases h with ⟨a1, a2, a3, a4⟩ | ⟨a1, a2, a3, a4⟩
  · exact Or.inl ⟨a1, a2, a3, cg_bd g (by omega) jN a4⟩
  · exact Or.inr ⟨a1, a2, a3, cg_bd g (by omega) jN a4⟩
theorem cg_tc {s : Int} {X M : Int → Int} (g : cg N cd vl cd' vl') : ∀ (n : Nat) (i : Int), i ≤ N → tx_c o cd vl X M s n i → tx_c o cd' vl' X M s n i := by
  intro n
  induction n with
  | zero => intro i _ h; exact h
  | succ n ih =>
    rintro i iN ⟨b, e, h1, h2, h3, h4, h5⟩
    have b0 := tx_c_0 h1
    exact ⟨b, e, ih b (by omega) h1, h2, cg_ok g b0 h2 (by omega) h3, by rw [g.1 e (by omega) (by omega)]; exact h4, h5⟩
theorem cg_tx {s n : Int} {X M : Int → Int} (g : cg N cd vl cd' vl') (h : tx_ok o cd vl X M s N n) : tx_ok o cd' vl' X M s N n := by
  obtain ⟨m, b, h1, h2, h3, h4, h5⟩ := h
  exact ⟨m, b, h1, h2, cg_tc g m b (by omega) h3, h4, cg_ok g (tx_c_0 h3) h4 (Int.le_refl _) h5⟩
end QSG
section QSH
variable {V V' V1 V2 W W' : dV} {r x a i t c v p q k w0 f n h s u m j B N head high told : Int} {w X M cd vl : Int → Int} {S T A : dn}
theorem dv_l2i_ok {a : Int} (h0 : -2147483648 ≤ a) (h1 : a ≤ 2147483647) : dv_l2i a = a := by
  unfold dv_l2i
  rw [Int64.toInt_toInt32, dv_lof (by omega) (by omega)]
  exact dv_bm h0 h1
theorem q_mark (c0 : 0 ≤ c) (c1 : c ≤ 11) (k0 : 0 ≤ k) (k1 : k ≤ 7) : f_X10_mark V x c k = (V x 1 (c * 8 + k), ()) := by
  unfold f_X10_mark
  rw [bq, bq, if_neg (by omega), bq, if_neg (by omega), bq]
/-- what evaluating may change -/
def kq_fr (r : Int) (V V' : dV) : Prop := ∀ b m z, ¬ (b = r ∧ (m = 0 ∨ m = 2 ∨ m = 3)) → V' b m z = V b m z
theorem kq_r : kq_fr r V V := fun _ _ _ _ => rfl
theorem kq_t (h : kq_fr r V V') (h1 : kq_fr r V' V1) : kq_fr r V V1 := fun b m z k => (h1 b m z k).trans (h b m z k)
theorem kq_k (h : kx_fr r t V V') : kq_fr r V V' := fun b m z k => h.1 b m z (fun q => k ⟨q.1, by omega⟩)
theorem kq_2 {y : Int} : kq_fr r V (dv_u V r 2 j y) := fun b m z k => by
  unfold dv_u; rw [if_neg (fun e => k ⟨e.1, Or.inr (Or.inl e.2.1)⟩)]
/-- a TEST in code: none, or what is run -/
def cl_T (X : Int → Int) (p q : Int) (T : dn) : Prop := (p = q ∧ T = fun _ => some 1) ∨ K_seg X p q T 20
def so (x : Option Int) : Prop := ∃ v, x = some v ∧ v ≠ 0
/-- a reckoner's words -/
def kw_ok (V : dV) (r : Int) (w : Int → Int) : Prop := (∀ k, 0 ≤ k → k < 23 → V r 1 k = w k) ∧ ∀ k, -2147483648 ≤ w k ∧ w k ≤ 2147483647
theorem kw_f (h : kw_ok V r w) (f : kq_fr r V V') : kw_ok V' r w := ⟨fun k k0 k1 => by rw [f r 1 k (fun q => absurd q.2 (by decide))]; exact h.1 k k0 k1, h.2⟩
theorem c_isSo (c0 : 0 ≤ c) (c1 : c ≤ 11) (hT : cl_T (V x 0) (V x 1 (c * 8 + 6)) (V x 1 (c * 8 + 7)) T) (hs : V x 1 (c * 8 + 7) ≤ V x 2 0) (hw : kw_ok V r w) (hx : x ≠ r) : ∃ (V' : dV) (y : Int), f_X6_isSo V r x c = (V', y) ∧ kq_fr r V V' ∧ (y = 1 ∧ so (T w) ∨ y = 0 ∧ ¬ so (T w)) := by
  unfold f_X6_isSo
  rw [dv_bn2 (q_mark c0 c1 (by decide) (by decide)), dv_bn2 (q_mark c0 c1 (by decide) (by decide))]
  rcases hT with ⟨e, rfl⟩ | hK
  · rw [if_pos e]
    exact ⟨V, 1, rfl, kq_r, Or.inl ⟨rfl, 1, rfl, by decide⟩⟩
  · have l := hK.1
    rw [if_neg (by omega)]
    obtain ⟨V1, y, e1, f1, h1⟩ := K_run hK (by decide) (fun _ _ _ => rfl) hs hw.1 hx hw.2
    rw [dv_bn2 e1, bq]
    cases hTw : T w with
    | none =>
      rw [hTw] at h1
      have h1 : V1 r 3 0 ≠ 0 := h1
      by_cases e2 : dv_lcmp y 0 = 0
      · rw [if_pos e2]
        exact ⟨V1, 0, rfl, kq_k f1, Or.inr ⟨rfl, fun ⟨z, hz, _⟩ => by cases hz⟩⟩
      · rw [if_neg e2, bq, if_pos h1]
        exact ⟨V1, 0, rfl, kq_k f1, Or.inr ⟨rfl, fun ⟨z, hz, _⟩ => by cases hz⟩⟩
    | some v =>
      rw [hTw] at h1
      have h1 : V1 r 3 0 = 0 ∧ y = v := h1
      by_cases e2 : dv_lcmp y 0 = 0
      · rw [if_pos e2]
        have := lcmp_eq.mp e2
        exact ⟨V1, 0, rfl, kq_k f1, Or.inr ⟨rfl, fun ⟨z, hz, nz⟩ => by cases hz; omega⟩⟩
      · rw [if_neg e2, bq, if_neg (fun q => q h1.1)]
        exact ⟨V1, 1, rfl, kq_k f1, Or.inl ⟨rfl, v, rfl, fun q => e2 (lcmp_eq.mpr (by omega))⟩⟩
/-- one of a clause's sums -/
theorem c_sum0 (c0 : 0 ≤ c) (c1 : c ≤ 11) (j0 : 0 ≤ j) (j2 : j ≤ 2) (e : V x 1 (c * 8 + (2 + j)) = V x 1 (c * 8 + (2 + j + 1))) : f_X6_reckonSums_2b (V, r, x, c, j) = Sum.inl (dv_u V r 2 j 0, r, x, c, j + 1) := by
  rw [f_X6_reckonSums_2e]
  unfold f_X6_reckonSums_2c f_X6_reckonSums_55 f_X6_reckonSums_72
  rw [if_neg (by omega), bq, dv_bn2 (q_mark c0 c1 (by omega) (by omega)), bq, bq, dv_bn2 (q_mark c0 c1 (by omega) (by omega)), if_neg (fun z => z e), bq, if_pos e, bq]
theorem c_sum1 (c0 : 0 ≤ c) (c1 : c ≤ 11) (j0 : 0 ≤ j) (j2 : j ≤ 2) (hK : K_seg (V x 0) (V x 1 (c * 8 + (2 + j))) (V x 1 (c * 8 + (2 + j + 1))) S h) (h62 : h ≤ 62) (hs : V x 1 (c * 8 + (2 + j + 1)) ≤ V x 2 0) (hw : kw_ok V r w) (hx : x ≠ r) (iS : d_in S) : ∃ V' : dV, kq_fr r V V' ∧ (∀ z, z ≠ j → V' r 2 z = V r 2 z) ∧ ((∃ v, S w = some v ∧ V' r 2 j = v ∧ f_X6_reckonSums_2b (V, r, x, c, j) = Sum.inl (V', r, x, c, j + 1)) ∨ (S w = none ∧ f_X6_reckonSums_2b (V, r, x, c, j) = Sum.inr (V', 0))) := by
  have l := hK.1
  obtain ⟨V1, y, e1, f1, h1⟩ := K_run hK h62 (fun _ _ _ => rfl) hs hw.1 hx hw.2
  refine ⟨dv_u V1 r 2 j (dv_l2i y), kq_t (kq_k f1) kq_2, fun z hz => by rw [u_i hz, f1.1 r 2 z (fun q => absurd q.2 (by decide))], ?_⟩
  have e3 : dv_u V1 r 2 j (dv_l2i y) r 3 0 = V1 r 3 0 := u_j (by decide)
  rw [f_X6_reckonSums_2e]
  unfold f_X6_reckonSums_2c f_X6_reckonSums_55 f_X6_reckonSums_72
  rw [if_neg (by omega), bq, dv_bn2 (q_mark c0 c1 (by omega) (by omega)), bq, bq, dv_bn2 (q_mark c0 c1 (by omega) (by omega)), if_pos (by omega), dv_bn2 e1, bq, bq, if_neg (by omega), bq, e3]
  cases hS : S w with
  | none =>
    rw [hS] at h1
    have h1 : V1 r 3 0 ≠ 0 := h1
    rw [if_neg h1]
    exact Or.inr ⟨rfl, rfl⟩
  | some v =>
    rw [hS] at h1
    have h1 : V1 r 3 0 = 0 ∧ y = v := h1
    have b := iS w hw.2 v hS
    rw [if_pos h1.1, bq]
    exact Or.inl ⟨v, rfl, by rw [u_e, h1.2, dv_l2i_ok (by omega) (by omega)], rfl⟩
/-- a law's clause, i to j: what its SUM and its "if" say -/
def lc (cd vl : Int → Int) (i j : Int) (X M : Int → Int) (s m : Int) (S T : dn) : Prop := (0 ≤ M 0 ∧ M 0 ≤ 2) ∧ cd i = M 0 + 1 ∧ M 5 ≤ s ∧ M 7 ≤ s ∧ ((M 0 = 2 ∧ m = i + 1 ∧ M 3 = M 2 ∧ M 4 = M 2 ∧ M 5 = M 2 ∧ S = fun _ => some 1) ∨ (M 0 ≠ 2 ∧ i + 1 < m ∧ M 4 = M 3 ∧ M 5 = M 3 ∧ D_sum 0 cd vl 8 (i + 1) m S ∧ K_seg X (M 2) (M 3) S 19)) ∧ ((cd m ≠ 4 ∧ j = m ∧ M 6 = M 7 ∧ T = fun _ => some 1) ∨ (cd m = 4 ∧ m + 1 < j ∧ D_test 0 cd vl 8 (m + 1) j T ∧ K_seg X (M 6) (M 7) T 20))
theorem lc_of (h : cl_ok 0 cd vl i j X M s) : ∃ (m : Int) (S T : dn), lc cd vl i j X M s m S T := by
  rcases h with ⟨-, h2, h3, m, m', h4, h5, ⟨h6, h7⟩, h8⟩ | ⟨h1, -⟩
  · have hm : m' = m := by
      rcases h5 with ⟨-, b, -⟩ | ⟨b, -⟩
      · exact b
      · exact absurd b (by decide)
    subst hm
    have hT : ∃ T : dn, ((cd m' ≠ 4 ∧ j = m' ∧ M 6 = M 7 ∧ T = fun _ => some 1) ∨ (cd m' = 4 ∧ m' + 1 < j ∧ D_test 0 cd vl 8 (m' + 1) j T ∧ K_seg X (M 6) (M 7) T 20)) := by
      rcases h6 with ⟨b1, b2, b3⟩ | ⟨b1, b2, T, b3, b4⟩
      · exact ⟨_, Or.inl ⟨b1, b2, b3, rfl⟩⟩
      · exact ⟨T, Or.inr ⟨b1, b2, b3, b4⟩⟩
    obtain ⟨T, hT⟩ := hT
    by_cases e : M 0 = 2
    · rw [if_pos e] at h4
      rcases h4 with ⟨-, a2, a3, a4, a5⟩ | ⟨a1, -⟩ | ⟨a1, -⟩
      · exact ⟨m', fun _ => some 1, T, h2, h3, h8, h7, Or.inl ⟨e, a2, a3, a4, a5, rfl⟩, hT⟩
      · exact absurd a1 (by decide)
      · exact absurd a1 (by decide)
    · rw [if_neg e] at h4
      rcases h4 with ⟨a1, -⟩ | ⟨-, a2, a3, a4, S, a5, a6⟩ | ⟨a1, -⟩
      · exact absurd a1 (by decide)
      · exact ⟨m', S, T, h2, h3, h8, h7, Or.inr ⟨e, a2, a3, a4, a5, a6⟩, hT⟩
      · exact absurd a1 (by decide)
  · exact absurd h1 (by decide)
/-- the class's sums of a law's clause -/
theorem c_sumsL (c0 : 0 ≤ c) (c1 : c ≤ 11) (hl : lc cd vl i j (V x 0) (fun k => V x 1 (c * 8 + k)) (V x 2 0) m S T) (hw : kw_ok V r w) (hx : x ≠ r) : ∃ (V' : dV) (y : Int), f_X6_reckonSums V r x c = (V', y) ∧ kq_fr r V V' ∧ (y = 1 ∧ (∃ v, S w = some v ∧ (V x 1 (c * 8 + 0) ≠ 2 → V' r 2 0 = v)) ∨ y = 0 ∧ S w = none) := by
  obtain ⟨h1, h2, h3, h4, h5, -⟩ := hl
  -- behind the first: nothing
  have FIN : ∀ U : dV, kq_fr r V U → V x 1 (c * 8 + 4) = V x 1 (c * 8 + 3) → V x 1 (c * 8 + 5) = V x 1 (c * 8 + 3) → ∃ V' : dV, dv_lp f_X6_reckonSums_2b (U, r, x, c, 1) = (V', 1) ∧ kq_fr r V V' ∧ V' r 2 0 = U r 2 0 := by
    intro U hU g4 g5
    have ux : ∀ z, U x 1 z = V x 1 z := fun z => hU x 1 z (fun q => hx q.1)
    have e1 := c_sum0 (V := U) (r := r) (x := x) (c := c) (j := 1) c0 c1 (by decide) (by decide) (by rw [ux, ux]; show V x 1 (c * 8 + 3) = V x 1 (c * 8 + 4); rw [g4])
    have ux1 : ∀ z, dv_u U r 2 1 0 x 1 z = V x 1 z := fun z => by rw [u_b hx, ux]
    have e2 := c_sum0 (V := dv_u U r 2 1 0) (r := r) (x := x) (c := c) (j := 1 + 1) c0 c1 (by decide) (by decide) (by rw [ux1, ux1]; show V x 1 (c * 8 + 4) = V x 1 (c * 8 + 5); rw [g4, g5])
    refine ⟨dv_u (dv_u U r 2 1 0) r 2 (1 + 1) 0, ?_, kq_t (kq_t hU kq_2) kq_2, by rw [u_i (by decide), u_i (by decide)]⟩
    rw [dv_lp_s e1, dv_lp_s e2]
    refine dv_lp_e ?_
    rw [f_X6_reckonSums_2e]
    unfold f_X6_reckonSums_2c
    rw [if_pos (by decide)]
  unfold f_X6_reckonSums
  rcases h5 with ⟨a1, a2, a3, a4, a5, rfl⟩ | ⟨a1, a2, a3, a4, a5, a6⟩
  · have e1 := c_sum0 (V := V) (r := r) (x := x) (c := c) (j := 0) c0 c1 (by decide) (by decide) (by show V x 1 (c * 8 + 2) = V x 1 (c * 8 + 3); exact a3.symm)
    obtain ⟨V', e2, f2, -⟩ := FIN (dv_u V r 2 0 0) kq_2 (a4.trans a3.symm) (a5.trans a3.symm)
    exact ⟨V', 1, by rw [dv_lp_s e1]; exact e2, f2, Or.inl ⟨rfl, 1, rfl, fun q => absurd a1 q⟩⟩
  · have a5' := D_sum_in a5
    have l := a6.1
    obtain ⟨U, f1, -, ⟨v, hv, u0, e1⟩ | ⟨hv, e1⟩⟩ := c_sum1 (V := V) (r := r) (x := x) (c := c) (j := 0) (h := 19) (w := w) c0 c1 (by decide) (by decide) a6 (by decide) (by have h3 : V x 1 (c * 8 + 5) ≤ V x 2 0 := h3; have a4 : V x 1 (c * 8 + 5) = V x 1 (c * 8 + 3) := a4; show V x 1 (c * 8 + 3) ≤ _; omega) hw hx a5'
    · obtain ⟨V', e2, f2, g2⟩ := FIN U f1 a3 a4
      exact ⟨V', 1, by rw [dv_lp_s e1]; exact e2, f2, Or.inl ⟨rfl, v, hv, fun _ => by rw [g2, u0]⟩⟩
    · exact ⟨U, 0, dv_lp_e e1, f1, Or.inr ⟨rfl, hv⟩⟩
theorem lc_T (hl : lc cd vl i j X M s m S T) : cl_T X (M 6) (M 7) T := by
  obtain ⟨-, -, -, -, -, h6⟩ := hl
  rcases h6 with ⟨-, -, b, c⟩ | ⟨-, -, -, d⟩
  · exact Or.inl ⟨b, c⟩
  · exact Or.inr d
end QSH
section QSI
variable {V V' V0 V1 V2 U W W' : dV} {r x a i t c v p q k f n h s u m j B N head high told y z b e jd rk κ : Int} {w X M cd vl : Int → Int} {S T A : dn}
def clamp (high s : Int) : Int := if s < 0 then 0 else if high < s then high else s
theorem r_156 : ∃ told', f_X12_tells_156 U u y c a head high told z = Sum.inl (dv_u U a 22 0 (U a 22 0 + 1), a, head, high, told') ∧ ((c = head ∧ z ≠ 0 ∧ U a 24 0 = 0 ∧ u = 0 ∧ told' = clamp high y) ∨ (¬ (c = head ∧ z ≠ 0 ∧ U a 24 0 = 0 ∧ u = 0) ∧ told' = told)) := by
  have L : ∀ g, f_X12_tells_211 U a head high g = Sum.inl (dv_u U a 22 0 (U a 22 0 + 1), a, head, high, g) := fun g => by
    unfold f_X12_tells_211
    rw [bq, bq, bq]
  unfold f_X12_tells_156
  by_cases e1 : c = head
  · rw [if_neg (fun q => q e1)]
    by_cases e2 : z = 0
    · rw [if_pos e2, L]; exact ⟨_, rfl, Or.inr ⟨fun q => q.2.1 e2, rfl⟩⟩
    · rw [if_neg e2, bq]
      by_cases e3 : U a 24 0 = 0
      · rw [if_neg (fun q => q e3)]
        by_cases e4 : u = 0
        · rw [if_neg (fun q => q e4), bq]
          by_cases e5 : 0 ≤ dv_lcmp y 0
          · have g5 := lcmp_ge.mp e5
            rw [if_pos e5, bq, bq]
            by_cases e6 : dv_lcmp y high ≤ 0
            · have g6 := lcmp_le.mp e6
              rw [if_pos e6, L]
              refine ⟨_, rfl, Or.inl ⟨e1, e2, e3, e4, ?_⟩⟩
              unfold clamp; rw [if_neg (by omega), if_neg (by omega)]
            · have g6 : ¬ y ≤ high := fun q => e6 (lcmp_le.mpr q)
              rw [if_neg e6, bq, L]
              refine ⟨_, rfl, Or.inl ⟨e1, e2, e3, e4, ?_⟩⟩
              unfold clamp; rw [if_neg (by omega), if_pos (by omega)]
          · have g5 : ¬ 0 ≤ y := fun q => e5 (lcmp_ge.mpr q)
            rw [if_neg e5, L]
            refine ⟨_, rfl, Or.inl ⟨e1, e2, e3, e4, ?_⟩⟩
            unfold clamp; rw [if_pos (by omega)]
        · rw [if_pos e4, L]; exact ⟨_, rfl, Or.inr ⟨fun q => e4 q.2.2.2, rfl⟩⟩
      · rw [if_pos e3, L]; exact ⟨_, rfl, Or.inr ⟨fun q => e3 q.2.2.1, rfl⟩⟩
  · rw [if_pos e1, L]; exact ⟨_, rfl, Or.inr ⟨fun q => e1 q.1, rfl⟩⟩
theorem r_122 (hT : (cd m ≠ 4 ∧ j = m ∧ T = fun _ => some 1) ∨ (cd m = 4 ∧ m + 1 < j ∧ D_test 0 cd vl 8 (m + 1) j T)) (m0 : 0 ≤ m) (hx : ex_cx 0 cd vl w a B U) (hg : U a 22 0 = B + m) (hw : ∀ k, -2147483648 ≤ w k ∧ w k ≤ 2147483647) : ∃ (V' : dV) (told' : Int), f_X12_tells_122 U c a head high told y = Sum.inl (V', a, head, high, told') ∧ ex_fr a U V' ∧ V' a 22 0 = B + (j + 1) ∧ ((c = head ∧ so (T w) ∧ U a 24 0 = 0 ∧ told' = clamp high y) ∨ (¬ (c = head ∧ so (T w) ∧ U a 24 0 = 0) ∧ told' = told)) := by
  have F1 : ex_fr a U (dv_u U a 24 0 0) := ex_fr_24
  have x1 := ex_cx_f hx F1
  have g1 : dv_u U a 24 0 0 a 22 0 = B + m := by rw [u24_22]; exact hg
  have b1 : dv_u U a 24 0 0 a 24 0 = 0 := u24
  unfold f_X12_tells_122 f_X12_tells_151
  rw [bq, bq]
  generalize dv_u U a 24 0 0 = U1 at F1 x1 g1 b1
  rcases hT with ⟨h4, rfl, rfl⟩ | ⟨h4, hl, hD⟩
  · rw [dv_bn2 (q_pass0 x1 m0 g1 h4), if_pos rfl]
    obtain ⟨told', e1, h1⟩ := r_156 (U := U1) (u := U a 24 0) (y := y) (c := c) (a := a) (head := head) (high := high) (told := told) (z := 1)
    rw [e1]
    refine ⟨_, told', rfl, ex_fr_t F1 ex_fr_22, by rw [u22, g1]; omega, ?_⟩
    rcases h1 with ⟨k1, -, -, k4, k5⟩ | ⟨k1, k2⟩
    · exact Or.inl ⟨k1, ⟨1, rfl, by decide⟩, k4, k5⟩
    · exact Or.inr ⟨fun q => k1 ⟨q.1, by decide, b1, q.2.2⟩, k2⟩
  · rw [dv_bn2 (q_pass1 x1 m0 g1 h4), if_neg (by decide)]
    have F2 : ex_fr a U1 (dv_u U1 a 22 0 (B + (m + 1))) := ex_fr_22
    have x2 := ex_cx_f x1 F2
    have g2 : dv_u U1 a 22 0 (B + (m + 1)) a 22 0 = B + (m + 1) := u22
    have b2 : dv_u U1 a 22 0 (B + (m + 1)) a 24 0 = 0 := by rw [u22_24]; exact b1
    generalize dv_u U1 a 22 0 (B + (m + 1)) = U2 at F2 x2 g2 b2
    obtain ⟨U3, v, e3, F3, g3, r3, -⟩ := er_test (Or.inl rfl) hw 8 (m + 1) j T hD (by omega) U2 1 x2 g2
    unfold ex_rs at r3
    rw [if_neg (by decide), b2, if_neg (fun q => q rfl)] at r3
    have FF := ex_fr_t (ex_fr_t F1 F2) F3
    rw [dv_bn2 e3]
    have FIN : ∀ zz, (zz = 0 ↔ v = 0) → ∃ (V' : dV) (told' : Int), f_X12_tells_156 U3 (U a 24 0) y c a head high told zz = Sum.inl (V', a, head, high, told') ∧ ex_fr a U V' ∧ V' a 22 0 = B + (j + 1) ∧ ((c = head ∧ so (T w) ∧ U a 24 0 = 0 ∧ told' = clamp high y) ∨ (¬ (c = head ∧ so (T w) ∧ U a 24 0 = 0) ∧ told' = told)) := by
      intro zz hz
      obtain ⟨told', e1, h1⟩ := r_156 (U := U3) (u := U a 24 0) (y := y) (c := c) (a := a) (head := head) (high := high) (told := told) (z := zz)
      refine ⟨_, told', e1, ex_fr_t FF ex_fr_22, by rw [u22, g3]; omega, ?_⟩
      cases hTw : T w with
      | none =>
        rw [hTw] at r3
        have r3 : U3 a 24 0 ≠ 0 := r3
        rcases h1 with ⟨-, -, k3, -⟩ | ⟨k1, k2⟩
        · exact absurd k3 r3
        · exact Or.inr ⟨fun q => (by obtain ⟨z, hz, _⟩ := q.2.1; cases hz), k2⟩
      | some t =>
        rw [hTw] at r3
        have r3 : U3 a 24 0 = 0 ∧ v = t := r3
        rcases h1 with ⟨k1, k0, -, k4, k5⟩ | ⟨k1, k2⟩
        · exact Or.inl ⟨k1, ⟨t, rfl, fun q => k0 (hz.mpr (by omega))⟩, k4, k5⟩
        · refine Or.inr ⟨fun q => k1 ⟨q.1, fun q0 => ?_, r3.1, q.2.2⟩, k2⟩
          obtain ⟨t', ht, nt⟩ := q.2.1
          cases ht
          have := hz.mp q0
          omega
    by_cases ev : v = 0
    · rw [if_pos ev]; exact FIN 0 ⟨fun _ => ev, fun _ => rfl⟩
    · rw [if_neg ev]; exact FIN 1 ⟨fun q => absurd q (by decide), fun q => absurd q ev⟩
/-- the reference's clause -/
theorem r_clause (hl : lc cd vl i j X M s m S T) (i0 : 0 ≤ i) (hx : ex_cx 0 cd vl w a B V) (hg : V a 22 0 = B + i) (hlt : B + i < V a 23 0) (hw : ∀ k, -2147483648 ≤ w k ∧ w k ≤ 2147483647) : ∃ (V' : dV) (told' : Int), f_X12_tells_71b (V, a, head, high, told) = Sum.inl (V', a, head, high, told') ∧ ex_fr a V V' ∧ V' a 22 0 = B + (j + 1) ∧ ((cd i = head ∧ so (T w) ∧ (∃ v, S w = some v ∧ told' = clamp high v)) ∨ (¬ (cd i = head ∧ so (T w) ∧ S w ≠ none) ∧ told' = told)) := by
  obtain ⟨h1, h2, -, -, h5, h6⟩ := hl
  have h6' : (cd m ≠ 4 ∧ j = m ∧ T = fun _ => some 1) ∨ (cd m = 4 ∧ m + 1 < j ∧ D_test 0 cd vl 8 (m + 1) j T) := by
    rcases h6 with ⟨a1, a2, a3, a4⟩ | ⟨a1, a2, a3, a4⟩
    · exact Or.inl ⟨a1, a2, a4⟩
    · exact Or.inr ⟨a1, a2, a3⟩
  have F1 : ex_fr a V (dv_u V a 24 0 0) := ex_fr_24
  have g1 : dv_u V a 24 0 0 a 22 0 = B + i := by rw [u24_22]; exact hg
  have F2 : ex_fr a V (dv_u (dv_u V a 24 0 0) a 22 0 (B + i + 1)) := ex_fr_t F1 ex_fr_22
  have g2 : dv_u (dv_u V a 24 0 0) a 22 0 (B + i + 1) a 22 0 = B + (i + 1) := by rw [u22]; omega
  have b2 : dv_u (dv_u V a 24 0 0) a 22 0 (B + i + 1) a 24 0 = 0 := by rw [u22_24, u24]
  rw [f_X12_tells_71e]
  unfold f_X12_tells_71c
  rw [bq, bq, if_neg (by omega), bq, dv_bn2 (q_codeAt hx i0 hg), bq, bq, g1, bq, bq]
  generalize dv_u (dv_u V a 24 0 0) a 22 0 (B + i + 1) = U at F2 g2 b2
  have x2 := ex_cx_f hx F2
  rcases h5 with ⟨a1, rfl, -, -, -, rfl⟩ | ⟨a1, a2, -, -, a5, -⟩
  · rw [if_neg (by omega)]
    obtain ⟨V', told', e1, e2, e3, e4⟩ := r_122 (y := 1) (c := cd i) (head := head) (high := high) (told := told) h6' (by omega) x2 g2 hw
    refine ⟨V', told', e1, ex_fr_t F2 e2, e3, ?_⟩
    rcases e4 with ⟨k1, k2, k3, k4⟩ | ⟨k1, k2⟩
    · exact Or.inl ⟨k1, k2, 1, rfl, k4⟩
    · exact Or.inr ⟨fun q => k1 ⟨q.1, q.2.1, b2⟩, k2⟩
  · rw [if_pos (by omega)]
    obtain ⟨U3, v, e3, F3, g3, r3, -⟩ := er_sum (Or.inl rfl) hw 8 (i + 1) m S a5 (by omega) U 1 x2 g2
    unfold ex_rs at r3
    rw [if_neg (by decide), b2, if_neg (fun q => q rfl)] at r3
    rw [dv_bn2 e3]
    obtain ⟨V', told', e1, e2, e3, e4⟩ := r_122 (y := v) (c := cd i) (head := head) (high := high) (told := told) h6' (by omega) (ex_cx_f x2 F3) g3 hw
    refine ⟨V', told', e1, ex_fr_t (ex_fr_t F2 F3) e2, e3, ?_⟩
    cases hS : S w with
    | none =>
      rw [hS] at r3
      have r3 : U3 a 24 0 ≠ 0 := r3
      rcases e4 with ⟨-, -, k3, -⟩ | ⟨k1, k2⟩
      · exact absurd k3 r3
      · exact Or.inr ⟨fun q => q.2.2 rfl, k2⟩
    | some t =>
      rw [hS] at r3
      have r3 : U3 a 24 0 = 0 ∧ v = t := r3
      rcases e4 with ⟨k1, k2, k3, k4⟩ | ⟨k1, k2⟩
      · exact Or.inl ⟨k1, k2, t, rfl, by rw [k4, r3.2]⟩
      · exact Or.inr ⟨fun q => k1 ⟨q.1, q.2.1, r3.1⟩, k2⟩
/-- both behind n clauses: r is what the last that holds tells -/
def JJ (κ high : Int) (cd vl w : Int → Int) (V0 : dV) (jd rk x a B N : Int) (n : Nat) (i : Int) (r : Option Int) : Prop := (∀ V, kq_fr rk V0 V → ∃ (V' : dV) (y : Int), dv_lp f_X2_holds_1_15b (V, jd, x, κ, (n : Int) - 1) = (V', y) ∧ kq_fr rk V0 V' ∧ (y = 1 ∧ (∃ v, r = some v ∧ (κ ≠ 2 → V' rk 2 0 = v)) ∨ y = 0 ∧ r = none)) ∧ (∀ (W : dV) (told : Int), ex_cx 0 cd vl w a B W → W a 22 0 = B → W a 23 0 = B + N → ∃ (W' : dV) (told' : Int), dv_lp f_X12_tells_71b (W, a, κ + 1, high, told) = dv_lp f_X12_tells_71b (W', a, κ + 1, high, told') ∧ ex_fr a W W' ∧ W' a 22 0 = B + i ∧ ((∃ v, r = some v ∧ told' = clamp high v ∧ (κ = 2 → v = 1)) ∨ (r = none ∧ told' = told)))
theorem JJ_0 : JJ κ high cd vl w V0 jd rk x a B N 0 0 none := by
  refine ⟨fun V hV => ⟨V, 0, ?_, hV, Or.inr ⟨rfl, rfl⟩⟩, fun W told hx hg _ => ⟨W, told, rfl, ex_fr_r, by omega, Or.inr ⟨rfl, rfl⟩⟩⟩
  refine dv_lp_e ?_
  rw [f_X2_holds_1_15e]
  unfold f_X2_holds_1_15c
  rw [if_pos (by decide)]
theorem JJ_s {n : Nat} {ro : Option Int} (hJ : JJ κ high cd vl w V0 jd rk x a B N n b ro) (hc : cl_ok 0 cd vl b e (V0 x 0) (fun k => V0 x 1 ((n : Int) * 8 + k)) (V0 x 2 0)) (n11 : n ≤ 11) (b0 : 0 ≤ b) (bN : b < N) (hj : V0 jd 0 0 = rk) (hjr : jd ≠ rk) (hxr : x ≠ rk) (hw : kw_ok V0 rk w) : ∃ r', JJ κ high cd vl w V0 jd rk x a B N (n + 1) (e + 1) r' := by
  obtain ⟨m, S, T, hl⟩ := lc_of hc
  have hcd : cd b = V0 x 1 ((n : Int) * 8 + 0) + 1 := hl.2.1
  have hn : ((n + 1 : Nat) : Int) - 1 = (n : Int) := by omega
  -- the class's clause
  have CL : ∀ V, kq_fr rk V0 V → ∃ V1, kq_fr rk V0 V1 ∧ ((V0 x 1 ((n : Int) * 8 + 0) = κ ∧ so (T w) ∧ (∃ v, S w = some v ∧ (κ ≠ 2 → V1 rk 2 0 = v)) ∧ f_X2_holds_1_15b (V, jd, x, κ, (n : Int)) = Sum.inr (V1, 1)) ∨ (¬ (V0 x 1 ((n : Int) * 8 + 0) = κ ∧ so (T w) ∧ S w ≠ none) ∧ f_X2_holds_1_15b (V, jd, x, κ, (n : Int)) = Sum.inl (V1, jd, x, κ, (n : Int) - 1))) := by
    intro V hV
    have vx : ∀ m z, V x m z = V0 x m z := fun m z => hV x m z (fun q => hxr q.1)
    have vj : V jd 0 0 = rk := by rw [hV jd 0 0 (fun q => hjr q.1), hj]
    have hl1 : lc cd vl b e (V x 0) (fun k => V x 1 ((n : Int) * 8 + k)) (V x 2 0) m S T := by
      rw [show V x 0 = V0 x 0 from funext (vx 0), show V x 1 = V0 x 1 from funext (vx 1), vx]
      exact hl
    have hw1 := kw_f hw hV
    have L55 : ∀ U : dV, f_X2_holds_1_55 U jd x κ (n : Int) = Sum.inl (U, jd, x, κ, (n : Int) - 1) := fun U => by
      unfold f_X2_holds_1_55
      rw [bq]
      rfl
    rw [f_X2_holds_1_15e]
    unfold f_X2_holds_1_15c
    rw [if_neg (by omega), dv_bn2 (q_mark (by omega) (by omega) (by decide) (by decide)), vx]
    by_cases e1 : V0 x 1 ((n : Int) * 8 + 0) = κ
    · rw [if_neg (fun q => q e1), bq, vj]
      obtain ⟨V1, y1, f1, g1, h1⟩ := c_isSo (c := (n : Int)) (by omega) (by omega) (lc_T hl1) hl1.2.2.2.1 hw1 hxr
      rw [dv_bn2 f1]
      rcases h1 with ⟨rfl, h1⟩ | ⟨rfl, h1⟩
      · have v1j : V1 jd 0 0 = rk := by rw [g1 jd 0 0 (fun q => hjr q.1), vj]
        have v1x : ∀ m z, V1 x m z = V x m z := fun m z => g1 x m z (fun q => hxr q.1)
        have hl2 : lc cd vl b e (V1 x 0) (fun k => V1 x 1 ((n : Int) * 8 + k)) (V1 x 2 0) m S T := by
          rw [show V1 x 0 = V x 0 from funext (v1x 0), show V1 x 1 = V x 1 from funext (v1x 1), v1x]
          exact hl1
        obtain ⟨V2, y2, f2, g2, h2⟩ := c_sumsL (c := (n : Int)) (by omega) (by omega) hl2 (kw_f hw1 g1) hxr
        rw [if_neg (by decide), bq, v1j, dv_bn2 f2]
        rcases h2 with ⟨rfl, v, h2, h3⟩ | ⟨rfl, h2⟩
        · rw [if_neg (by decide)]
          exact ⟨V2, kq_t (kq_t hV g1) g2, Or.inl ⟨e1, h1, ⟨v, h2, fun q => h3 (by rw [v1x, vx, e1]; exact q)⟩, rfl⟩⟩
        · rw [if_pos rfl, L55]
          exact ⟨V2, kq_t (kq_t hV g1) g2, Or.inr ⟨fun q => q.2.2 h2, rfl⟩⟩
      · rw [if_pos rfl, L55]
        exact ⟨V1, kq_t hV g1, Or.inr ⟨fun q => h1 q.2.1, rfl⟩⟩
    · rw [if_pos e1, L55]
      exact ⟨V, hV, Or.inr ⟨fun q => e1 q.1, rfl⟩⟩
  by_cases hh : V0 x 1 ((n : Int) * 8 + 0) = κ ∧ so (T w) ∧ S w ≠ none
  · obtain ⟨v, hv⟩ : ∃ v, S w = some v := by
      cases hS : S w with
      | none => exact absurd hS hh.2.2
      | some v => exact ⟨v, rfl⟩
    refine ⟨some v, fun V hV => ?_, fun W told hx hg h23 => ?_⟩
    · rw [hn]
      obtain ⟨V1, f1, ⟨-, -, ⟨v', hv', k1⟩, k2⟩ | ⟨k1, -⟩⟩ := CL V hV
      · rw [hv] at hv'
        cases hv'
        exact ⟨V1, 1, dv_lp_e k2, f1, Or.inl ⟨rfl, v, rfl, k1⟩⟩
      · exact absurd hh k1
    · obtain ⟨W1, t1, e1, f1, g1, -⟩ := hJ.2 W told hx hg h23
      obtain ⟨W2, t2, e2, f2, g2, h2⟩ := r_clause (head := κ + 1) (high := high) (told := t1) hl b0 (ex_cx_f hx f1) g1 (by rw [f1 a 23 0 (fun q => absurd q.2 (by decide)), h23]; omega) hw.2
      refine ⟨W2, t2, by rw [e1, dv_lp_s e2], ex_fr_t f1 f2, g2, ?_⟩
      rcases h2 with ⟨-, -, v', hv', k1⟩ | ⟨k1, -⟩
      · rw [hv] at hv'
        cases hv'
        refine Or.inl ⟨v, rfl, k1, fun q => ?_⟩
        rcases hl.2.2.2.2.1 with ⟨-, -, -, -, -, hS⟩ | ⟨hS, -⟩
        · rw [hS] at hv
          exact (Option.some.inj hv).symm
        · exact absurd (hh.1.trans q) hS
      · exact absurd ⟨by rw [hcd, hh.1], hh.2⟩ k1
  · refine ⟨ro, fun V hV => ?_, fun W told hx hg h23 => ?_⟩
    · rw [hn]
      obtain ⟨V1, f1, ⟨k1, k2, ⟨v', hv', -⟩, -⟩ | ⟨-, k2⟩⟩ := CL V hV
      · exact absurd ⟨k1, k2, by rw [hv']; exact fun q => by cases q⟩ hh
      · obtain ⟨V', y, e1, g1, h1⟩ := hJ.1 V1 f1
        exact ⟨V', y, by rw [dv_lp_s k2]; exact e1, g1, h1⟩
    · obtain ⟨W1, t1, e1, f1, g1, h1⟩ := hJ.2 W told hx hg h23
      obtain ⟨W2, t2, e2, f2, g2, h2⟩ := r_clause (head := κ + 1) (high := high) (told := t1) hl b0 (ex_cx_f hx f1) g1 (by rw [f1 a 23 0 (fun q => absurd q.2 (by decide)), h23]; omega) hw.2
      refine ⟨W2, t2, by rw [e1, dv_lp_s e2], ex_fr_t f1 f2, g2, ?_⟩
      rcases h2 with ⟨k1, k2, v', hv', -⟩ | ⟨-, k2⟩
      · exact absurd ⟨by omega, k2, by rw [hv']; exact fun q => by cases q⟩ hh
      · rw [k2]; exact h1
theorem JJ_c {n : Nat} (n12 : n ≤ 12) (hj : V0 jd 0 0 = rk) (hjr : jd ≠ rk) (hxr : x ≠ rk) (hw : kw_ok V0 rk w) : ∀ i, i ≤ N → tx_c 0 cd vl (V0 x 0) (V0 x 1) (V0 x 2 0) n i → ∃ ro, JJ κ high cd vl w V0 jd rk x a B N n i ro := by
  induction n with
  | zero => intro i _ h; have h : i = 0 := h; subst h; exact ⟨none, JJ_0⟩
  | succ n ih =>
    rintro i iN ⟨b, e, h1, h2, h3, h4, rfl⟩
    have b0 := tx_c_0 h1
    obtain ⟨ro, hJ⟩ := ih (by omega) b (by omega) h1
    exact JJ_s hJ h3 (by omega) b0 (by omega) hj hjr hxr hw
/-- class and reference ask a law the same -/
theorem JJ_w {n : Int} (hT : tx_ok 0 cd vl (V0 x 0) (V0 x 1) (V0 x 2 0) N n) (hj : V0 jd 0 0 = rk) (hjr : jd ≠ rk) (hxr : x ≠ rk) (hw : kw_ok V0 rk w) : ∃ ro, JJ κ high cd vl w V0 jd rk x a B N n.toNat (N + 1) ro := by
  obtain ⟨m, b, h1, h2, h3, h4, h5⟩ := hT
  obtain ⟨ro, hJ⟩ := JJ_c (κ := κ) (high := high) (a := a) (B := B) (N := N) (by omega) hj hjr hxr hw b (by omega) h3
  obtain ⟨r', hJ'⟩ := JJ_s hJ h5 h2 (tx_c_0 h3) h4 hj hjr hxr hw
  rw [show n.toNat = m + 1 by omega]
  exact ⟨r', hJ'⟩
end QSI
section QSJ
variable {V V' V0 V1 V2 U W W' : dV} {r x a i t c v p q k f n h s u m j B N head high y z b e jd rk κ fl lx px py wo : Int} {w X M cd vl : Int → Int}
/-- a text of a kept row, as the class reads it -/
def tcd (K : Int → Int) (b t : Int) : Int → Int := fun i => if i < K (b + (73 + t)) then K (b + (80 + 400 * t + i)) else 0
def tvl (K : Int → Int) (b t : Int) : Int → Int := fun i => K (b + (2880 + 400 * t + i))
def te_fr (a : Int) (W W' : dV) : Prop := ∀ b m z, ¬ (b = a ∧ 22 ≤ m ∧ m ≤ 26) → W' b m z = W b m z
theorem te_r : te_fr a W W := fun _ _ _ _ => rfl
theorem te_t (h : te_fr a W W') (h1 : te_fr a W' V) : te_fr a W V := fun b m z k => (h1 b m z k).trans (h b m z k)
theorem te_e (h : ex_fr a W W') : te_fr a W W' := fun b m z k => h b m z (fun q => k ⟨q.1, by omega⟩)
theorem te_u {j : Nat} (h : 22 ≤ j ∧ j ≤ 26) : te_fr a W (dv_u W a j i y) := fun b m z q => by
  unfold dv_u; rw [if_neg (fun e => q ⟨e.1, by rw [e.2.1]; exact h⟩)]
/-- the law in force -/
def lw_ok (V W : dV) (lx a : Int) : Prop := (W a 2 72 = -1 ∧ lx = -1) ∨ ((0 ≤ W a 2 72 ∧ W a 2 72 ≤ 5) ∧ lx ≠ -1 ∧ tx_ok 0 (tcd (W a 2) 0 (W a 2 72)) (tvl (W a 2) 0 (W a 2 72)) (V lx 0) (V lx 1) (V lx 2 0) (W a 2 (73 + W a 2 72)) (V lx 3 0))
theorem m_asked : ∃ W', f_X12_setsAsked W a c px py = (W', 0) ∧ te_fr a W W' ∧ W' a 26 0 = c ∧ W' a 26 1 = W a 2 (29 + c) ∧ W' a 26 2 = W a 2 (38 + c) ∧ W' a 26 3 = px ∧ W' a 26 4 = py ∧ W' a 26 5 = W a 2 66 ∧ W' a 26 6 = W a 2 c ∧ W' a 26 7 = W a 2 28 := by
  have t : ∀ (U : dV) (z y : Int), te_fr a U (dv_u U a 26 z y) := fun U z y => te_u (by decide)
  have k2 : ∀ (U : dV) (z y z' : Int), dv_u U a 26 z y a 2 z' = U a 2 z' := fun U z y z' => u_j (by decide)
  unfold f_X12_setsAsked
  simp only [bq, k2, Int.zero_add]
  refine ⟨_, rfl, te_t (te_t (te_t (te_t (te_t (te_t (te_t (t _ _ _) (t _ _ _)) (t _ _ _)) (t _ _ _)) (t _ _ _)) (t _ _ _)) (t _ _ _)) (t _ _ _), ?_, ?_, ?_, ?_, ?_, ?_, ?_, ?_⟩
  · rw [u_i (by decide), u_i (by decide), u_i (by decide), u_i (by decide), u_i (by decide), u_i (by decide), u_i (by decide), u_e]
  · rw [u_i (by decide), u_i (by decide), u_i (by decide), u_i (by decide), u_i (by decide), u_i (by decide), u_e]
  · rw [u_i (by decide), u_i (by decide), u_i (by decide), u_i (by decide), u_i (by decide), u_e]
  · rw [u_i (by decide), u_i (by decide), u_i (by decide), u_i (by decide), u_e]
  · rw [u_i (by decide), u_i (by decide), u_i (by decide), u_e]
  · rw [u_i (by decide), u_i (by decide), u_e]
  · rw [u_i (by decide), u_e]
  · rw [u_e]
theorem q_holds (hl : lw_ok V W lx a) (hj : V jd 0 0 = rk) (hjr : jd ≠ rk) (hxr : lx ≠ rk) (hw : kw_ok V rk w) (hc : w 0 = c ∧ w 1 = W a 2 (29 + c) ∧ w 2 = W a 2 (38 + c) ∧ w 3 = W a 2 c ∧ w 4 = px ∧ w 5 = py ∧ w 6 = W a 2 28 ∧ w 7 = W a 2 66) (hh : 0 ≤ high ∧ high ≤ 99) (ho : 0 ≤ wo ∧ wo ≤ 99) : ∃ (V' : dV) (y : Int) (W' : dV) (z : Int), f_X2_holds V jd lx κ = (V', y) ∧ f_X12_tells W a (κ + 1) c px py high wo = (W', z) ∧ kq_fr rk V V' ∧ te_fr a W W' ∧ ((y = 1 ∧ ∃ v, z = clamp high v ∧ (κ ≠ 2 → V' rk 2 0 = v) ∧ (κ = 2 → v = 1)) ∨ (y = 0 ∧ z = wo)) := by
  unfold f_X2_holds f_X12_tells
  rcases hl with ⟨h1, rfl⟩ | ⟨h1, h2, h3⟩
  · refine ⟨V, 0, W, wo, ?_, ?_, kq_r, te_r, Or.inr ⟨rfl, rfl⟩⟩
    · rw [if_pos rfl]
      unfold f_X2_holds_0
      refine dv_lp_e ?_
      rw [f_X2_holds_0_15e]
      unfold f_X2_holds_0_15c
      rw [if_pos (by decide)]
    · rw [bq, h1, if_neg (fun q => q rfl)]
  · obtain ⟨W1, e1, F1, s0, s1, s2, s3, s4, s5, s6, s7⟩ := m_asked (W := W) (a := a) (c := c) (px := px) (py := py)
    have k2 : ∀ z, W1 a 2 z = W a 2 z := fun z => F1 a 2 z (fun q => absurd q.2.1 (by decide))
    have G1 : te_fr a W1 (dv_u W1 a 25 0 0) := te_u (by decide)
    have G2 : te_fr a (dv_u W1 a 25 0 0) (dv_u (dv_u W1 a 25 0 0) a 22 0 (400 * W a 2 72)) := te_u (by decide)
    have G3 : te_fr a (dv_u (dv_u W1 a 25 0 0) a 22 0 (400 * W a 2 72)) (dv_u (dv_u (dv_u W1 a 25 0 0) a 22 0 (400 * W a 2 72)) a 23 0 (400 * W a 2 72 + W a 2 (73 + W a 2 72))) := te_u (by decide)
    have FF := te_t (te_t (te_t F1 G1) G2) G3
    have x2 : ∀ z, dv_u W1 a 25 0 0 a 2 z = W a 2 z := fun z => by rw [u_j (by decide), k2]
    have y2 : ∀ z, dv_u (dv_u W1 a 25 0 0) a 22 0 (400 * W a 2 72) a 2 z = W a 2 z := fun z => by rw [u_j (by decide), x2]
    have y22 : dv_u (dv_u W1 a 25 0 0) a 22 0 (400 * W a 2 72) a 22 0 = 400 * W a 2 72 := u_e
    have z22 : dv_u (dv_u (dv_u W1 a 25 0 0) a 22 0 (400 * W a 2 72)) a 23 0 (400 * W a 2 72 + W a 2 (73 + W a 2 72)) a 22 0 = 400 * W a 2 72 := by rw [u_j (by decide), u_e]
    have z23 : dv_u (dv_u (dv_u W1 a 25 0 0) a 22 0 (400 * W a 2 72)) a 23 0 (400 * W a 2 72 + W a 2 (73 + W a 2 72)) a 23 0 = 400 * W a 2 72 + W a 2 (73 + W a 2 72) := u_e
    have z25 : dv_u (dv_u (dv_u W1 a 25 0 0) a 22 0 (400 * W a 2 72)) a 23 0 (400 * W a 2 72 + W a 2 (73 + W a 2 72)) a 25 0 = 0 := by rw [u_j (by decide), u_j (by decide), u_e]
    have z26 : ∀ z, dv_u (dv_u (dv_u W1 a 25 0 0) a 22 0 (400 * W a 2 72)) a 23 0 (400 * W a 2 72 + W a 2 (73 + W a 2 72)) a 26 z = W1 a 26 z := fun z => by rw [u_j (by decide), u_j (by decide), u_j (by decide)]
    have z2 : ∀ z, dv_u (dv_u (dv_u W1 a 25 0 0) a 22 0 (400 * W a 2 72)) a 23 0 (400 * W a 2 72 + W a 2 (73 + W a 2 72)) a 2 z = W a 2 z := fun z => by rw [u_j (by decide), y2]
    rw [if_neg h2, bq, if_pos (by omega), dv_bn2 e1, bq, bq, bq, x2, bq, bq, bq, bq, y22, y2, bq, bq, y2, bq, bq]
    generalize dv_u (dv_u (dv_u W1 a 25 0 0) a 22 0 (400 * W a 2 72)) a 23 0 (400 * W a 2 72 + W a 2 (73 + W a 2 72)) = W2 at FF z22 z23 z25 z26 z2
    have hx : ex_cx 0 (tcd (W a 2) 0 (W a 2 72)) (tvl (W a 2) 0 (W a 2 72)) w a (400 * W a 2 72) W2 := by
      refine ⟨fun i i0 => ?_, fun i i0 => ?_, z25, fun _ c c8 c15 => ?_, fun q => absurd rfl q⟩
      · unfold tcd
        rw [z23, z2, Int.zero_add, Int.zero_add]
        by_cases e : i < W a 2 (73 + W a 2 72)
        · rw [if_pos e, if_pos (by omega)]; congr 1; omega
        · rw [if_neg e, if_neg (by omega)]
      · unfold tvl
        rw [z2, Int.zero_add]; congr 1; omega
      · obtain ⟨c0, c1, c2, c3, c4, c5, c6, c7⟩ := hc
        rw [z26]
        have hcs : c = 8 ∨ c = 9 ∨ c = 10 ∨ c = 11 ∨ c = 12 ∨ c = 13 ∨ c = 14 ∨ c = 15 := by omega
        rcases hcs with rfl | rfl | rfl | rfl | rfl | rfl | rfl | rfl
        · exact s0.trans c0.symm
        · exact s1.trans c1.symm
        · exact s2.trans c2.symm
        · exact s3.trans c4.symm
        · exact s4.trans c5.symm
        · exact s5.trans c7.symm
        · exact s6.trans c3.symm
        · exact s7.trans c6.symm
    obtain ⟨m, b, hn, hm, -⟩ := id h3
    obtain ⟨ro, J1, J2⟩ := JJ_w (κ := κ) (high := high) (a := a) (B := 400 * W a 2 72) h3 hj hjr hxr hw
    obtain ⟨V', y, f1, g1, k1⟩ := J1 V kq_r
    obtain ⟨W3, t3, f3, g3, u3, k3⟩ := J2 W2 wo hx z22 z23
    have hv : f_X2_holds_1 V jd lx κ = (V', y) := by
      unfold f_X2_holds_1
      rw [bq, bq, show V lx 3 0 - 1 = ((V lx 3 0).toNat : Int) - 1 by omega]
      exact f1
    have ht : 0 ≤ t3 ∧ t3 ≤ 99 := by
      rcases k3 with ⟨v, -, k3, -⟩ | ⟨-, k3⟩
      · rw [k3]; unfold clamp; split
        · omega
        · split <;> omega
      · omega
    have hW : dv_lp f_X12_tells_71b (W2, a, κ + 1, high, wo) = (W3, t3) := by
      rw [f3]
      refine dv_lp_e ?_
      rw [f_X12_tells_71e]
      unfold f_X12_tells_71c
      rw [bq, bq, u3, g3 a 23 0 (fun q => absurd q.2 (by decide)), z23, if_pos (by omega), bq, dv_l2i_ok (by omega) (by omega)]
    refine ⟨V', y, W3, t3, hv, hW, g1, te_t FF (te_e g3), ?_⟩
    rcases k1 with ⟨rfl, v, hr, k1⟩ | ⟨rfl, hr⟩
    · rcases k3 with ⟨v', hr', k3, k4⟩ | ⟨hr', -⟩
      · rw [hr] at hr'
        cases hr'
        exact Or.inl ⟨rfl, v, k3, k1, k4⟩
      · rw [hr] at hr'; cases hr'
    · rcases k3 with ⟨v', hr', -⟩ | ⟨-, k3⟩
      · rw [hr] at hr'; cases hr'
      · exact Or.inr ⟨rfl, k3⟩
/-- the class's words of a law -/
def kj_fr (rk : Int) (V V' : dV) : Prop := (∀ b m z, ¬ (b = rk ∧ m ≤ 3) → V' b m z = V b m z) ∧ ∀ z, 8 ≤ z → V' rk 1 z = V rk 1 z
theorem kj_t (h : kj_fr rk V V') (h1 : kj_fr rk V' V1) : kj_fr rk V V1 := ⟨fun b m z k => (h1.1 b m z k).trans (h.1 b m z k), fun z hz => (h1.2 z hz).trans (h.2 z hz)⟩
theorem kj_q (h : kq_fr rk V V') : kj_fr rk V V' := ⟨fun b m z k => h b m z (fun q => k ⟨q.1, by omega⟩), fun z _ => h rk 1 z (fun q => absurd q.2 (by decide))⟩
theorem kj_u (h : i < 8) : kj_fr rk V (dv_u V rk 1 i y) := ⟨fun b m z q => by
  unfold dv_u; rw [if_neg (fun e => q ⟨e.1, by rw [e.2.1]; decide⟩)], fun z hz => u_i (by omega)⟩
theorem c_words (hf : fl ≠ rk) : ∃ V', f_X6_setLawWords V rk fl c px py = (V', 0) ∧ kj_fr rk V V' ∧ V' rk 1 0 = c ∧ V' rk 1 1 = V fl 0 c ∧ V' rk 1 2 = V fl 1 c ∧ V' rk 1 3 = V fl 2 c ∧ V' rk 1 4 = px ∧ V' rk 1 5 = py ∧ V' rk 1 6 = V fl 5 0 ∧ V' rk 1 7 = V fl 5 2 := by
  have kf : ∀ (U : dV) (z y : Int) (m : Nat) (z' : Int), dv_u U rk 1 z y fl m z' = U fl m z' := fun U z y m z' => u_b hf
  unfold f_X6_setLawWords
  simp only [bq, kf]
  refine ⟨_, rfl, kj_t (kj_t (kj_t (kj_t (kj_t (kj_t (kj_t (kj_u (by decide)) (kj_u (by decide))) (kj_u (by decide))) (kj_u (by decide))) (kj_u (by decide))) (kj_u (by decide))) (kj_u (by decide))) (kj_u (by decide)), ?_, ?_, ?_, ?_, ?_, ?_, ?_, ?_⟩
  · rw [u_i (by decide), u_i (by decide), u_i (by decide), u_i (by decide), u_i (by decide), u_i (by decide), u_i (by decide), u_e]
  · rw [u_i (by decide), u_i (by decide), u_i (by decide), u_i (by decide), u_i (by decide), u_i (by decide), u_e]
  · rw [u_i (by decide), u_i (by decide), u_i (by decide), u_i (by decide), u_i (by decide), u_e]
  · rw [u_i (by decide), u_i (by decide), u_i (by decide), u_i (by decide), u_e]
  · rw [u_i (by decide), u_i (by decide), u_i (by decide), u_e]
  · rw [u_i (by decide), u_i (by decide), u_e]
  · rw [u_i (by decide), u_e]
  · rw [u_e]
/-- what the judge needs: its reckoner, the floor, the law -/
def jd_ok (V W : dV) (jd rk fl lx a : Int) : Prop := V jd 0 0 = rk ∧ jd ≠ rk ∧ fl ≠ rk ∧ lx ≠ rk ∧ lw_ok V W lx a ∧ ef9 (V fl) (kf (W a 2) 0) ∧ kgf (V fl) ∧ ∀ k, 8 ≤ k → k < 23 → -2147483648 ≤ V rk 1 k ∧ V rk 1 k ≤ 2147483647
theorem jd_ask (h : jd_ok V W jd rk fl lx a) (c0 : 0 ≤ c) (c1 : c < V fl 7 0) (hp : -1 ≤ px ∧ px ≤ 12) (hq : -1 ≤ py ∧ py ≤ 12) (hh : 0 ≤ high ∧ high ≤ 99) (ho : 0 ≤ wo ∧ wo ≤ 99) : ∃ (V1 V' : dV) (y : Int) (W' : dV) (z : Int), f_X6_setLawWords V rk fl c px py = (V1, 0) ∧ kj_fr rk V V1 ∧ f_X2_holds V1 jd lx κ = (V', y) ∧ f_X12_tells W a (κ + 1) c px py high wo = (W', z) ∧ kj_fr rk V V' ∧ te_fr a W W' ∧ ((y = 1 ∧ ∃ v, z = clamp high v ∧ (κ ≠ 2 → V' rk 2 0 = v) ∧ (κ = 2 → v = 1)) ∨ (y = 0 ∧ z = wo)) := by
  obtain ⟨h1, h2, h3, h4, h5, h6, h7, h8⟩ := h
  obtain ⟨V1, e1, F1, s0, s1, s2, s3, s4, s5, s6, s7⟩ := c_words (V := V) (c := c) (px := px) (py := py) h3
  obtain ⟨⟨n7, n8, n9, nc⟩, -, ns, -, -, -, y0, -, y2⟩ := h7
  have hc9 : c < 9 := by omega
  obtain ⟨e0, ek, ep, -, -⟩ := h6.1 c c0 hc9
  obtain ⟨t0, -, t2⟩ := h6.2.1
  simp only [kf, Int.zero_add] at e0 ek ep t0 t2
  rw [if_pos trivial] at t0
  rw [if_neg (by decide)] at t2
  have b1 := nc c c0 c1
  have b2 := ns c c0 c1
  have vx : lx ≠ -1 → ∀ m z, V1 lx m z = V lx m z := fun _ m z => F1.1 lx m z (fun q => h4 q.1)
  have hw : kw_ok V1 rk (fun k => if 0 ≤ k ∧ k < 23 then V1 rk 1 k else 0) := by
    refine ⟨fun k k0 k1 => by dsimp only; rw [if_pos ⟨k0, k1⟩], fun k => ?_⟩
    dsimp only
    by_cases e : 0 ≤ k ∧ k < 23
    · rw [if_pos e]
      by_cases e8 : 8 ≤ k
      · rw [F1.2 k e8]; exact h8 k e8 e.2
      · have hk : k = 0 ∨ k = 1 ∨ k = 2 ∨ k = 3 ∨ k = 4 ∨ k = 5 ∨ k = 6 ∨ k = 7 := by omega
        rcases hk with rfl | rfl | rfl | rfl | rfl | rfl | rfl | rfl
        · rw [s0]; omega
        · rw [s1]; omega
        · rw [s2]; omega
        · rw [s3]; omega
        · rw [s4]; omega
        · rw [s5]; omega
        · rw [s6]; omega
        · rw [s7]; omega
    · rw [if_neg e]; decide
  have hl1 : lw_ok V1 W lx a := by
    rcases h5 with h5 | ⟨k1, k2, k3⟩
    · exact Or.inl h5
    · have vv := vx k2
      refine Or.inr ⟨k1, k2, ?_⟩
      rw [show V1 lx 0 = V lx 0 from funext (vv 0), show V1 lx 1 = V lx 1 from funext (vv 1), vv, vv]
      exact k3
  have hj1 : V1 jd 0 0 = rk := by rw [F1.1 jd 0 0 (fun q => h2 q.1), h1]
  obtain ⟨V', y, W', z, f1, f2, f3, f4, f5⟩ := q_holds (κ := κ) (c := c) (px := px) (py := py) (high := high) (wo := wo) hl1 hj1 h2 h4 hw ⟨by rw [if_pos (by decide), s0], by rw [if_pos (by decide), s1, e0], by rw [if_pos (by decide), s2, ek], by rw [if_pos (by decide), s3, ep], by rw [if_pos (by decide), s4], by rw [if_pos (by decide), s5], by rw [if_pos (by decide), s6, t0], by rw [if_pos (by decide), s7, t2]; rfl⟩ hh ho
  exact ⟨V1, V', y, W', z, e1, F1, f1, f2, kj_t F1 (kj_q f3), f4, f5⟩
theorem clamp_99 {v : Int} (h : 0 ≤ high) : clamp high v = max 0 (min high v) := by unfold clamp; split <;> (try split) <;> omega
/-- COSTS, in both -/
theorem q_cost (h : jd_ok V W jd rk fl lx a) (c0 : 0 ≤ c) (c1 : c < V fl 7 0) (hp : 0 ≤ px ∧ px ≤ 11) (hq : 0 ≤ py ∧ py ≤ 11) : ∃ (V' W' : dV) (y : Int), f_X2_costOf V jd lx fl c px py = (V', y) ∧ f_X12_costsAt W a c px py = (W', y) ∧ kj_fr rk V V' ∧ te_fr a W W' ∧ 0 ≤ y ∧ y ≤ 99 := by
  obtain ⟨h1, h2, h3, h4, h5, h6, h7, h8⟩ := id h
  have e0 := (h6.1 c c0 (by have := h7.1.1; omega)).1
  simp only [kf, Int.zero_add] at e0
  have bs := (h7.1.2.2.2 c c0 c1).1
  obtain ⟨V1, V', y, W', z, e1, F1, f1, f2, f3, f4, f5⟩ := jd_ask (κ := 0) (px := px) (py := py) (high := 99) (wo := V fl 0 c) h c0 c1 (by omega) (by omega) (by decide) (by omega)
  have f2' : f_X12_tells W a 1 c px py 99 (V fl 0 c) = (W', z) := f2
  have eW : f_X12_costsAt W a c px py = (W', z) := by
    unfold f_X12_costsAt
    rw [bq, bq, ← e0, dv_bn2 f2']
  rw [eW]
  unfold f_X2_costOf
  rw [bq, h1, dv_bn2 e1, dv_bn2 f1]
  rcases f5 with ⟨rfl, v, k1, k2, -⟩ | ⟨rfl, k1⟩
  · have vj : V' jd 0 0 = rk := by rw [f3.1 jd 0 0 (fun q => h2 q.1), h1]
    rw [if_neg (by decide), bq, vj, bq, k2 (by decide), bq, bq, ← clamp_99 (by decide), ← k1]
    refine ⟨V', W', z, rfl, rfl, f3, f4, ?_⟩
    rw [k1, clamp_99 (by decide)]; omega
  · have vf : V' fl 0 c = V fl 0 c := f3.1 fl 0 c (fun q => h3 q.1)
    rw [if_pos rfl, bq, vf, k1]
    exact ⟨V', W', _, rfl, rfl, f3, f4, by omega⟩
/-- WEARS -/
theorem q_wear (h : jd_ok V W jd rk fl lx a) (c0 : 0 ≤ c) (c1 : c < V fl 7 0) (hl : V fl 3 c ≠ -1) : ∃ (V' W' : dV) (y : Int), f_X2_wearOf V jd lx fl c = (V', y) ∧ f_X12_wearsNow W a c = (W', y) ∧ kj_fr rk V V' ∧ te_fr a W W' ∧ 0 ≤ y ∧ y ≤ 9 := by
  obtain ⟨h1, h2, h3, h4, h5, h6, h7, h8⟩ := id h
  obtain ⟨-, -, -, ex, ey⟩ := h6.1 c c0 (by have := h7.1.1; omega)
  simp only [kf, Int.zero_add] at ex ey
  have bs := (h7.1.2.2.2 c c0 c1).2.resolve_left hl
  obtain ⟨V1, V', y, W', z, e1, F1, f1, f2, f3, f4, f5⟩ := jd_ask (κ := 1) (high := 9) (wo := 1) (px := V fl 3 c) (py := V fl 4 c) h c0 c1 (by omega) (by omega) (by decide) (by decide)
  have f2' : f_X12_tells W a 2 c (V fl 3 c) (V fl 4 c) 9 1 = (W', z) := f2
  have eW : f_X12_wearsNow W a c = (W', z) := by
    unfold f_X12_wearsNow
    rw [bq, bq, bq, bq, ← ex, ← ey, dv_bn2 f2']
  rw [eW]
  unfold f_X2_wearOf
  rw [bq, bq, bq, h1, dv_bn2 e1, dv_bn2 f1]
  rcases f5 with ⟨rfl, v, k1, k2, -⟩ | ⟨rfl, k1⟩
  · have vj : V' jd 0 0 = rk := by rw [f3.1 jd 0 0 (fun q => h2 q.1), h1]
    rw [if_neg (by decide), bq, vj, bq, k2 (by decide), bq, bq, ← clamp_99 (by decide), ← k1]
    refine ⟨V', W', z, rfl, rfl, f3, f4, ?_⟩
    rw [k1, clamp_99 (by decide)]; omega
  · rw [if_pos rfl, k1]
    exact ⟨V', W', 1, rfl, rfl, f3, f4, by decide⟩
/-- BARRED -/
theorem q_bar (h : jd_ok V W jd rk fl lx a) (c0 : 0 ≤ c) (c1 : c < V fl 7 0) (hp : 0 ≤ px ∧ px ≤ 11) (hq : 0 ≤ py ∧ py ≤ 11) : ∃ (V' W' : dV) (y : Int), f_X2_isBarred V jd lx fl c px py = (V', y) ∧ f_X12_isBarred W a c px py = (W', y) ∧ kj_fr rk V V' ∧ te_fr a W W' ∧ (y = 0 ∨ y = 1) := by
  obtain ⟨h1, h2, -⟩ := id h
  obtain ⟨V1, V', y, W', z, e1, F1, f1, f2, f3, f4, f5⟩ := jd_ask (κ := 2) (px := px) (py := py) (high := 1) (wo := 0) h c0 c1 (by omega) (by omega) (by decide) (by decide)
  have f2' : f_X12_tells W a 3 c px py 1 0 = (W', z) := f2
  unfold f_X2_isBarred f_X12_isBarred
  rw [bq, h1, dv_bn2 e1, dv_bn2 f1, dv_bn2 f2']
  rcases f5 with ⟨rfl, v, k1, -, k2⟩ | ⟨rfl, k1⟩
  · rw [k2 rfl] at k1
    rw [k1, if_neg (by decide)]
    exact ⟨V', W', 1, rfl, rfl, f3, f4, Or.inr rfl⟩
  · rw [k1, if_pos (by decide)]
    exact ⟨V', W', 0, rfl, rfl, f3, f4, Or.inl rfl⟩
end QSJ
