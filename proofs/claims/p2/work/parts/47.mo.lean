section MO3
variable {cv : Int → Int} {R : Int → Int → Prop} {op : Int → Prop}
def mo_ch (cv : Int → Int) (R : Int → Int → Prop) (op : Int → Prop) : Nat → Int → Int → Prop
  | 0, i, j => R i j ∧ ¬ op (cv j)
  | n + 1, i, j => ∃ m, R i m ∧ op (cv m) ∧ mo_ch cv R op n (m + 1) j
def mo_chain (cv : Int → Int) (R : Int → Int → Prop) (op : Int → Prop) (i j : Int) : Prop := ∃ n, mo_ch cv R op n i j
/-- what is left of a chain behind a link that ends at m -/
def mo_rest (cv : Int → Int) (R : Int → Int → Prop) (op : Int → Prop) (m j : Int) : Prop := (m = j ∧ ¬ op (cv m)) ∨ (op (cv m) ∧ mo_chain cv R op (m + 1) j)
/-- from i to m so many links have been read -/
def mo_pre (cv : Int → Int) (R : Int → Int → Prop) (op : Int → Prop) (i m : Int) : Prop := ∀ j, mo_rest cv R op m j → mo_chain cv R op i j
theorem mo_chain_open {i j : Int} (h : mo_chain cv R op i j) : ∃ m, R i m ∧ mo_rest cv R op m j := by
  obtain ⟨n, h⟩ := h
  cases n with
  | zero => exact ⟨j, h.1, Or.inl ⟨rfl, h.2⟩⟩
  | succ n =>
    obtain ⟨m, h1, h2, h3⟩ := h
    exact ⟨m, h1, Or.inr ⟨h2, n, h3⟩⟩
theorem mo_chain_link {i m j : Int} (h : R i m) (hr : mo_rest cv R op m j) : mo_chain cv R op i j := by
  rcases hr with ⟨e, h2⟩ | ⟨h2, n, h3⟩
  · subst e
    exact ⟨0, h, h2⟩
  · exact ⟨n + 1, m, h, h2, h3⟩
theorem mo_rest_op {m j : Int} (h : mo_rest cv R op m j) (ho : op (cv m)) : ∃ m', R (m + 1) m' ∧ mo_rest cv R op m' j := by
  rcases h with ⟨-, h⟩ | ⟨-, h⟩
  · exact absurd ho h
  · exact mo_chain_open h
theorem mo_rest_end {m j : Int} (h : mo_rest cv R op m j) (ho : ¬ op (cv m)) : m = j := by
  rcases h with ⟨h, -⟩ | ⟨h, -⟩
  · exact h
  · exact absurd h ho
theorem mo_pre_0 {i m : Int} (h : R i m) : mo_pre cv R op i m := fun _ hr => mo_chain_link h hr
theorem mo_pre_s {i m m' : Int} (h : mo_pre cv R op i m) (ho : op (cv m)) (h2 : R (m + 1) m') : mo_pre cv R op i m' := fun _ hr => h _ (Or.inr ⟨ho, mo_chain_link h2 hr⟩)
theorem mo_pre_e {i m : Int} (h : mo_pre cv R op i m) (ho : ¬ op (cv m)) : mo_chain cv R op i m := h m (Or.inl ⟨rfl, ho⟩)
theorem mo_ch_lt (hR : ∀ i j, R i j → i < j) (n : Nat) : ∀ i j, mo_ch cv R op n i j → i < j := by
  induction n with
  | zero => exact fun i j h => hR i j h.1
  | succ n ih =>
    intro i j h
    obtain ⟨m, h1, -, h3⟩ := h
    have := hR i m h1
    have := ih (m + 1) j h3
    omega
theorem mo_chain_lt (hR : ∀ i j, R i j → i < j) {i j : Int} (h : mo_chain cv R op i j) : i < j := by
  obtain ⟨n, h⟩ := h
  exact mo_ch_lt hR n i j h
theorem mo_rest_le (hR : ∀ i j, R i j → i < j) {m j : Int} (h : mo_rest cv R op m j) : m ≤ j := by
  rcases h with ⟨h, -⟩ | ⟨-, h⟩
  · omega
  · have := mo_chain_lt hR h
    omega
def mo_mul (c : Int) : Prop := c = 142 ∨ c = 147 ∨ c = 137
def mo_add (c : Int) : Prop := c = 143 ∨ c = 145
def mo_is (w : Int) (c : Int) : Prop := c = w
def mo_leaf (o : Int) (cv : Int → Int) (i j : Int) : Prop := (cv i = 50 ∨ (o = 0 ∧ 8 ≤ cv i ∧ cv i ≤ 15) ∨ (o = 1 ∧ 14 ≤ cv i ∧ cv i ≤ 20)) ∧ ((o = 1 ∧ (cv i = 14 ∨ cv i = 20) ∧ cv (i + 1) = 50 ∧ j = i + 2) ∨ (¬ (o = 1 ∧ (cv i = 14 ∨ cv i = 20)) ∧ j = i + 1))
def mo_part (o : Int) (cv : Int → Int) : Nat → Int → Int → Prop
  | 0, i, j => mo_leaf o cv i j
  | d + 1, i, j => mo_leaf o cv i j ∨ (cv i = 191 ∧ ∃ j', mo_chain cv (mo_chain cv (mo_part o cv d) mo_mul) mo_add (i + 1) j' ∧ cv j' = 193 ∧ j = j' + 1)
def mo_term (o : Int) (cv : Int → Int) (d : Nat) : Int → Int → Prop := mo_chain cv (mo_part o cv d) mo_mul
def mo_sum (o : Int) (cv : Int → Int) (d : Nat) : Int → Int → Prop := mo_chain cv (mo_term o cv d) mo_add
theorem mo_part_b {o : Int} {d : Nat} {i j : Int} (h : cv i = 191) (h2 : mo_sum o cv d (i + 1) j) (h3 : cv j = 193) : mo_part o cv (d + 1) i (j + 1) := Or.inr ⟨h, j, h2, h3, rfl⟩
theorem mo_part_l {o : Int} {d : Nat} {i j : Int} (h : mo_leaf o cv i j) : mo_part o cv d i j := by
  cases d with
  | zero => exact h
  | succ d => exact Or.inl h
/-- a part begins with a bracket, or is a leaf -/
theorem mo_part_o {o : Int} {d : Nat} {i j : Int} (h : mo_part o cv d i j) : (cv i ≠ 191 ∧ mo_leaf o cv i j) ∨ (cv i = 191 ∧ ∃ d' j', d = d' + 1 ∧ mo_sum o cv d' (i + 1) j' ∧ cv j' = 193 ∧ j = j' + 1) := by
  have hl : mo_leaf o cv i j → cv i ≠ 191 := fun h => by
    have := h.1
    omega
  cases d with
  | zero => exact Or.inl ⟨hl h, h⟩
  | succ d =>
    rcases h with h | ⟨h1, j', h2, h3, h4⟩
    · exact Or.inl ⟨hl h, h⟩
    · exact Or.inr ⟨h1, d, j', rfl, h2, h3, h4⟩
theorem mo_leaf_lt {o i j : Int} (h : mo_leaf o cv i j) : i < j := by
  have := h.2
  omega
theorem mo_part_lt (o : Int) (cv : Int → Int) (d : Nat) : ∀ i j, mo_part o cv d i j → i < j := by
  induction d with
  | zero => exact fun i j h => mo_leaf_lt h
  | succ d ih =>
    intro i j h
    rcases h with h | ⟨-, j', h2, -, h4⟩
    · exact mo_leaf_lt h
    · have := mo_chain_lt (fun i j h => mo_chain_lt ih h) h2
      omega
theorem mo_term_lt (o : Int) (cv : Int → Int) (d : Nat) : ∀ i j, mo_term o cv d i j → i < j := fun _ _ h => mo_chain_lt (mo_part_lt o cv d) h
theorem mo_sum_lt (o : Int) (cv : Int → Int) (d : Nat) : ∀ i j, mo_sum o cv d i j → i < j := fun _ _ h => mo_chain_lt (mo_term_lt o cv d) h
def mo_cmp (o : Int) (cv : Int → Int) (d : Nat) (i j : Int) : Prop := ∃ m, mo_sum o cv d i m ∧ (cv m = 160 ∨ cv m = 162 ∨ cv m = 161) ∧ mo_sum o cv d (m + 1) j
def mo_nots (cv : Int → Int) (R : Int → Int → Prop) (i j : Int) : Prop := ∃ n : Nat, (∀ q : Nat, q < n → cv (i + q) = 7) ∧ cv (i + n) ≠ 7 ∧ R (i + n) j
def mo_pos (o : Int) (cv : Int → Int) : Nat → Int → Int → Prop
  | 0, i, j => mo_cmp o cv 0 i j
  | d + 1, i, j => mo_cmp o cv (d + 1) i j ∨ (cv i = 140 ∧ ∃ j', mo_chain cv (mo_chain cv (mo_nots cv (mo_pos o cv d)) (mo_is 6)) (mo_is 5) (i + 1) j' ∧ cv j' = 141 ∧ j = j' + 1)
def mo_plain (o : Int) (cv : Int → Int) (d : Nat) : Int → Int → Prop := mo_nots cv (mo_pos o cv d)
def mo_both (o : Int) (cv : Int → Int) (d : Nat) : Int → Int → Prop := mo_chain cv (mo_plain o cv d) (mo_is 6)
def mo_test (o : Int) (cv : Int → Int) (d : Nat) : Int → Int → Prop := mo_chain cv (mo_both o cv d) (mo_is 5)
theorem mo_cmp_lt (o : Int) (cv : Int → Int) (d : Nat) : ∀ i j, mo_cmp o cv d i j → i < j := by
  intro i j h
  obtain ⟨m, h1, -, h2⟩ := h
  have := mo_sum_lt o cv d _ _ h1
  have := mo_sum_lt o cv d _ _ h2
  omega
theorem mo_nots_lt {R : Int → Int → Prop} (hR : ∀ i j, R i j → i < j) : ∀ i j, mo_nots cv R i j → i < j := by
  intro i j h
  obtain ⟨n, -, -, h⟩ := h
  have := hR _ _ h
  omega
theorem mo_pos_lt (o : Int) (cv : Int → Int) (d : Nat) : ∀ i j, mo_pos o cv d i j → i < j := by
  induction d with
  | zero => exact fun i j h => mo_cmp_lt o cv 0 i j h
  | succ d ih =>
    intro i j h
    rcases h with h | ⟨-, j', h2, -, h4⟩
    · exact mo_cmp_lt o cv _ i j h
    · have := mo_chain_lt (fun i j h => mo_chain_lt (fun i j h => mo_nots_lt ih i j h) h) h2
      omega
theorem mo_plain_lt (o : Int) (cv : Int → Int) (d : Nat) : ∀ i j, mo_plain o cv d i j → i < j := mo_nots_lt (mo_pos_lt o cv d)
theorem mo_both_lt (o : Int) (cv : Int → Int) (d : Nat) : ∀ i j, mo_both o cv d i j → i < j := fun _ _ h => mo_chain_lt (mo_plain_lt o cv d) h
theorem mo_test_lt (o : Int) (cv : Int → Int) (d : Nat) : ∀ i j, mo_test o cv d i j → i < j := fun _ _ h => mo_chain_lt (mo_both_lt o cv d) h
/-- a sum begins with a bracket, a number or a word -/
theorem mo_sum_b {o : Int} {d : Nat} {i j : Int} (h : mo_sum o cv d i j) : cv i ≠ 140 ∧ cv i ≠ 7 ∧ cv i ≠ 0 := by
  obtain ⟨m, h1, -⟩ := mo_chain_open h
  obtain ⟨m2, h2, -⟩ := mo_chain_open h1
  rcases mo_part_o h2 with ⟨-, h3⟩ | ⟨h3, -⟩
  · have := h3.1
    omega
  · omega
theorem mo_pos_o {o : Int} {d : Nat} {i j : Int} (h : mo_pos o cv d i j) : (cv i ≠ 140 ∧ mo_cmp o cv d i j) ∨ (cv i = 140 ∧ ∃ d' j', d = d' + 1 ∧ mo_test o cv d' (i + 1) j' ∧ cv j' = 141 ∧ j = j' + 1) := by
  have hl : mo_cmp o cv d i j → cv i ≠ 140 := fun h => by
    obtain ⟨m, h1, -⟩ := h
    exact (mo_sum_b h1).1
  cases d with
  | zero => exact Or.inl ⟨hl h, h⟩
  | succ d =>
    rcases h with h | ⟨h1, j', h2, h3, h4⟩
    · exact Or.inl ⟨hl h, h⟩
    · exact Or.inr ⟨h1, d, j', rfl, h2, h3, h4⟩
theorem mo_pos_b {o : Int} {d : Nat} {i j : Int} (h : cv i = 140) (h2 : mo_test o cv d (i + 1) j) (h3 : cv j = 141) : mo_pos o cv (d + 1) i (j + 1) := Or.inr ⟨h, j, h2, h3, rfl⟩
theorem mo_pos_c {o : Int} {d : Nat} {i j : Int} (h : mo_cmp o cv d i j) : mo_pos o cv d i j := by
  cases d with
  | zero => exact h
  | succ d => exact Or.inl h
theorem mo_nots_s {R : Int → Int → Prop} {i j : Int} (h : mo_nots cv R i j) (h7 : cv i = 7) : mo_nots cv R (i + 1) j := by
  obtain ⟨n, h1, h2, h3⟩ := h
  cases n with
  | zero => exact absurd (by simpa using h7) h2
  | succ n =>
    refine ⟨n, fun q hq => ?_, ?_, ?_⟩
    · have := h1 (q + 1) (by omega)
      rw [← this]
      congr 1
      omega
    · have e : i + 1 + (n : Int) = i + ((n + 1 : Nat) : Int) := by omega
      rw [e]
      exact h2
    · have e : i + 1 + (n : Int) = i + ((n + 1 : Nat) : Int) := by omega
      rw [e]
      exact h3
theorem mo_nots_e {R : Int → Int → Prop} {i j : Int} (h : mo_nots cv R i j) (h7 : cv i ≠ 7) : R i j := by
  obtain ⟨n, h1, h2, h3⟩ := h
  cases n with
  | zero => simpa using h3
  | succ n => exact absurd (by simpa using h1 0 (by omega)) h7
theorem mo_nots_c {R : Int → Int → Prop} {i j : Int} (h7 : cv i = 7) (h : mo_nots cv R (i + 1) j) : mo_nots cv R i j := by
  obtain ⟨n, h1, h2, h3⟩ := h
  have e : i + 1 + (n : Int) = i + ((n + 1 : Nat) : Int) := by omega
  refine ⟨n + 1, fun q hq => ?_, by rw [← e]; exact h2, by rw [← e]; exact h3⟩
  cases q with
  | zero => simpa using h7
  | succ q =>
    have := h1 q (by omega)
    rw [← this]
    congr 1
    omega
theorem mo_nots_0 {R : Int → Int → Prop} {i j : Int} (h7 : cv i ≠ 7) (h : R i j) : mo_nots cv R i j := ⟨0, fun q hq => absurd hq (by omega), by simpa using h7, by simpa using h⟩
/-- so many nots have been read -/
def mo_npre (cv : Int → Int) (R : Int → Int → Prop) (i m : Int) : Prop := ∀ j, mo_nots cv R m j → mo_nots cv R i j
theorem mo_npre_0 {R : Int → Int → Prop} {i : Int} : mo_npre cv R i i := fun _ h => h
theorem mo_npre_s {R : Int → Int → Prop} {i m : Int} (h : mo_npre cv R i m) (h7 : cv m = 7) : mo_npre cv R i (m + 1) := fun j hj => h j (mo_nots_c h7 hj)
def mo_if (o : Int) (cv : Int → Int) (m j : Int) : Prop := (cv m = 4 ∧ mo_test o cv 8 (m + 1) j) ∨ (cv m ≠ 4 ∧ j = m)
def mo_cla (cv : Int → Int) (i j : Int) : Prop := ((cv i = 1 ∨ cv i = 2) ∧ ∃ m, mo_sum 0 cv 8 (i + 1) m ∧ mo_if 0 cv m j) ∨ (cv i = 3 ∧ mo_if 0 cv (i + 1) j)
def mo_ordh (cv : Int → Int) (i m : Int) : Prop := (cv i = 21 ∧ ∃ p q, mo_sum 1 cv 8 (i + 1) p ∧ cv p = 22 ∧ mo_sum 1 cv 8 (p + 1) q ∧ cv q = 23 ∧ mo_sum 1 cv 8 (q + 1) m) ∨ (cv i = 24 ∧ mo_sum 1 cv 8 (i + 1) m) ∨ ((cv i = 25 ∨ cv i = 26) ∧ m = i + 1)
def mo_tim (cv : Int → Int) (m m2 : Int) : Prop := (cv m = 27 ∧ cv (m + 1) = 50 ∧ m2 = m + 2) ∨ (cv m ≠ 27 ∧ m2 = m)
def mo_ord (cv : Int → Int) (i j : Int) : Prop := ∃ m, mo_ordh cv i m ∧ ∃ m2, mo_tim cv m m2 ∧ mo_if 1 cv m2 j
def mo_clause (o : Int) (cv : Int → Int) (i j : Int) : Prop := (o = 0 ∧ mo_cla cv i j) ∨ (o = 1 ∧ mo_ord cv i j)
def mo_text (o : Int) (cv : Int → Int) (n : Int) : Prop := mo_chain cv (mo_clause o cv) (mo_is 159) 0 n
theorem mo_if_le {o m j : Int} (h : mo_if o cv m j) : m ≤ j := by
  rcases h with ⟨-, h⟩ | ⟨-, h⟩
  · have := mo_test_lt o cv 8 _ _ h
    omega
  · omega
theorem mo_clause_lt (o : Int) (cv : Int → Int) : ∀ i j, mo_clause o cv i j → i < j := by
  intro i j h
  rcases h with ⟨-, h⟩ | ⟨-, m, h, m2, h2, h3⟩
  · rcases h with ⟨-, m, h1, h2⟩ | ⟨-, h2⟩
    · have := mo_sum_lt 0 cv 8 _ _ h1
      have := mo_if_le h2
      omega
    · have := mo_if_le h2
      omega
  · have a3 := mo_if_le h3
    have a2 : m ≤ m2 := by
      rcases h2 with ⟨-, -, h2⟩ | ⟨-, h2⟩ <;> omega
    rcases h with ⟨-, p, q, h4, -, h5, -, h6⟩ | ⟨-, h⟩ | ⟨-, h⟩
    · have := mo_sum_lt 1 cv 8 _ _ h4
      have := mo_sum_lt 1 cv 8 _ _ h5
      have := mo_sum_lt 1 cv 8 _ _ h6
      omega
    · have := mo_sum_lt 1 cv 8 _ _ h
      omega
    · omega
/-- a text in the row k, of size n from the place b on -/
def mo_tf (k : Int → Int) (b n : Int) : Int → Int := fun i => if 0 ≤ i ∧ i < n then k (b + i) else 0
def mo_lw (k : Int → Int) : Prop := k 72 < k 71 ∧ k 71 ≤ 6 ∧ ∀ t, 0 ≤ t → t < k 71 → k (73 + t) ≤ 400 ∧ mo_text 0 (mo_tf k (80 + 400 * t) (k (73 + t))) (k (73 + t))
def mo_kg (k : Int → Int) : Prop := mo_lw k ∧ mo_geo k ∧ 1 ≤ k 67 ∧ 1 ≤ k 68 ∧ ∀ c, 0 ≤ c → c < k 69 → 1 ≤ k (29 + c)
def mo_mx (k l : Int → Int) (r : Int) : Int → Int := fun i => if i < 29 then l (30 * r + i) else k i
def mo_ok (k im has l : Int → Int) (u : Int) : Prop := mo_kg k ∧ (∀ q, 0 ≤ q → q ≤ 1 → has q = 1 → mo_kg (fun i => im (5680 * q + i))) ∧ ∀ r, 0 ≤ r → r < u → mo_geo (mo_mx k l r)
theorem mo_lw_ext {k k' : Int → Int} (h : ∀ i, 71 ≤ i → i < 2880 → k' i = k i) (hk : mo_lw k) : mo_lw k' := by
  obtain ⟨h1, h2, h3⟩ := hk
  unfold mo_lw
  rw [h 71 (by omega) (by omega), h 72 (by omega) (by omega)]
  refine ⟨h1, h2, fun t t0 t1 => ?_⟩
  obtain ⟨h4, h5⟩ := h3 t t0 t1
  rw [h (73 + t) (by omega) (by omega)]
  refine ⟨h4, ?_⟩
  have e : mo_tf k' (80 + 400 * t) (k (73 + t)) = mo_tf k (80 + 400 * t) (k (73 + t)) := by
    funext i
    unfold mo_tf
    by_cases q : 0 ≤ i ∧ i < k (73 + t)
    · rw [if_pos q, if_pos q]
      exact h _ (by omega) (by omega)
    · rw [if_neg q, if_neg q]
  rw [e]
  exact h5
theorem mo_geo_ext {k k' : Int → Int} (h : ∀ i, 0 ≤ i → i < 80 → k' i = k i) (hk : mo_geo k) : mo_geo k' := by
  obtain ⟨h1, h2, h3⟩ := hk
  have e69 := h 69 (by omega) (by omega)
  have e67 := h 67 (by omega) (by omega)
  have e68 := h 68 (by omega) (by omega)
  refine ⟨by omega, fun c c0 c1 => ?_, fun c d c0 c1 d0 d1 => ?_⟩
  · rw [h (9 + c) (by omega) (by omega), h (29 + c) (by omega) (by omega), h (18 + c) (by omega) (by omega), e67, e68]
    exact h2 c c0 (by omega)
  · unfold mo_ap
    rw [h (9 + c) (by omega) (by omega), h (29 + c) (by omega) (by omega), h (18 + c) (by omega) (by omega), h (9 + d) (by omega) (by omega), h (29 + d) (by omega) (by omega), h (18 + d) (by omega) (by omega)]
    exact h3 c d c0 (by omega) d0 (by omega)
theorem mo_kg_ext {k k' : Int → Int} (h : ∀ i, 0 ≤ i → i < 5680 → k' i = k i) (hk : mo_kg k) : mo_kg k' := by
  obtain ⟨h1, h2, h3, h4, h5⟩ := hk
  have e69 := h 69 (by omega) (by omega)
  have m9 := h2.1
  refine ⟨mo_lw_ext (fun i a b => h i (by omega) (by omega)) h1, mo_geo_ext (fun i a b => h i a (by omega)) h2, by rw [h 67 (by omega) (by omega)]; exact h3, by rw [h 68 (by omega) (by omega)]; exact h4, fun c c0 c1 => ?_⟩
  rw [h (29 + c) (by omega) (by omega)]
  exact h5 c c0 (by omega)
end MO3
section MO4
variable {G : th_G} {Γ : th_Ga} {H H1 : Heap} {L : List (Nat × Nat)} {a : Nat}
/-- the class's relations, and the laws' texts of the reference -/
def th_RE (a : Nat) (G : th_G) (Γ : th_Ga) (H : Heap) : Prop := th_RC G Γ H ∧ mo_lw (mo_v G H a 2)
/-- and all that it keeps -/
def th_RK (a : Nat) (G : th_G) (Γ : th_Ga) (H : Heap) : Prop := th_RC G Γ H ∧ mo_kg (mo_v G H a 2)
/-- and its images and what can be undone -/
def th_RN (a : Nat) (G : th_G) (Γ : th_Ga) (H : Heap) : Prop := th_RC G Γ H ∧ mo_ok (mo_v G H a 2) (mo_v G H a 3) (mo_v G H a 4) (mo_v G H a 31) (mo_f G H a 33)
theorem th_KE (h : th_RK a G Γ H) : th_RE a G Γ H := ⟨h.1, h.2.1⟩
theorem th_NK (h : th_RN a G Γ H) : th_RK a G Γ H := ⟨h.1, h.2.1⟩
theorem th_NE (h : th_RN a G Γ H) : th_RE a G Γ H := ⟨h.1, h.2.1.1⟩
theorem th_RE_c (h1 : th_RC G Γ H1) (h : th_RE a G Γ H) (hI : th_I G Γ H1) (ha : Γ a = (46, 0)) (hF : th_F G Γ L H H1) (hL : th_in L 46 2 = false ∧ th_in L 48 0 = false) : th_RE a G Γ H1 := ⟨h1, by rw [mo_v_F (r := 48) hI hF ha rfl ro_48 hL.1 hL.2]; exact h.2⟩
theorem th_RK_c (h1 : th_RC G Γ H1) (h : th_RK a G Γ H) (hI : th_I G Γ H1) (ha : Γ a = (46, 0)) (hF : th_F G Γ L H H1) (hL : th_in L 46 2 = false ∧ th_in L 48 0 = false) : th_RK a G Γ H1 := ⟨h1, by rw [mo_v_F (r := 48) hI hF ha rfl ro_48 hL.1 hL.2]; exact h.2⟩
theorem th_RN_c (h1 : th_RC G Γ H1) (h : th_RN a G Γ H) (hI : th_I G Γ H1) (ha : Γ a = (46, 0)) (hF : th_F G Γ L H H1) (hL : (th_in L 46 2 = false ∧ th_in L 48 0 = false) ∧ (th_in L 46 3 = false ∧ th_in L 49 0 = false) ∧ (th_in L 46 4 = false ∧ th_in L 50 0 = false) ∧ (th_in L 46 31 = false ∧ th_in L 61 0 = false) ∧ th_in L 46 33 = false) : th_RN a G Γ H1 := by
  refine ⟨h1, ?_⟩
  rw [mo_v_F (r := 48) hI hF ha rfl ro_48 hL.1.1 hL.1.2, mo_v_F (r := 49) hI hF ha rfl ro_49 hL.2.1.1 hL.2.1.2, mo_v_F (r := 50) hI hF ha rfl ro_50 hL.2.2.1.1 hL.2.2.1.2, mo_v_F (r := 61) hI hF ha rfl ro_61 hL.2.2.2.1.1 hL.2.2.2.1.2, mo_f_F hF ha (by decide) hL.2.2.2.2]
  exact h.2
theorem th_RE_F (hI : th_I G Γ H1) (h : th_RE a G Γ H) (ha : Γ a = (46, 0)) (hF : th_F G Γ L H H1) (hT : th_T Γ H H1) (hL : L.all (fun q => !th_RCs.contains q) = true ∧ th_in L 46 2 = false ∧ th_in L 48 0 = false) : th_RE a G Γ H1 := th_RE_c (th_RC_F hI h.1 hF hT hL.1) h hI ha hF hL.2
theorem th_RK_F (hI : th_I G Γ H1) (h : th_RK a G Γ H) (ha : Γ a = (46, 0)) (hF : th_F G Γ L H H1) (hT : th_T Γ H H1) (hL : L.all (fun q => !th_RCs.contains q) = true ∧ th_in L 46 2 = false ∧ th_in L 48 0 = false) : th_RK a G Γ H1 := th_RK_c (th_RC_F hI h.1 hF hT hL.1) h hI ha hF hL.2
theorem th_RN_F (hI : th_I G Γ H1) (h : th_RN a G Γ H) (ha : Γ a = (46, 0)) (hF : th_F G Γ L H H1) (hT : th_T Γ H H1) (hL : L.all (fun q => !th_RCs.contains q) = true ∧ (th_in L 46 2 = false ∧ th_in L 48 0 = false) ∧ (th_in L 46 3 = false ∧ th_in L 49 0 = false) ∧ (th_in L 46 4 = false ∧ th_in L 50 0 = false) ∧ (th_in L 46 31 = false ∧ th_in L 61 0 = false) ∧ th_in L 46 33 = false) : th_RN a G Γ H1 := th_RN_c (th_RC_F hI h.1 hF hT hL.1) h hI ha hF hL.2
/-- a store into kept ahead of SIDE leaves the laws' texts as they are -/
theorem th_RE_st {b : Nat} {v : Int32} {z : Int} (hI : th_I G Γ H1) (h : th_RE a G Γ H) (ha : Γ a = (46, 0)) (hb : Γ b = (48, a)) (mb : th_sl H a (G.1.2 12 2) = .ref b) (hF : th_F G Γ [(48, 0)] H H1) (hst : th_St H H1 b z.toNat (.int v)) (h0 : 0 ≤ z) (h1 : z < 71) : th_RE a G Γ H1 := by
  refine ⟨th_RC_F hI h.1 hF (th_T_s hb ro_48 hst) (by decide), ?_⟩
  rw [mo_v_st ha hb (by decide) mb hst h0]
  exact mo_lw_ext (fun i i0 i1 => mo_un (by omega)) h.2
/-- a view of the reference's text, from the place B of its codes on -/
def mo_ce (G : th_G) (H : Heap) (a : Nat) (B : Int) : Int → Int := mo_tf (mo_v G H a 2) (80 + B) (mo_f G H a 23 - B)
theorem mo_ce_F (hI : th_I G Γ H1) (hF : th_F G Γ L H H1) (ha : Γ a = (46, 0)) (hL : th_in L 46 2 = false ∧ th_in L 48 0 = false ∧ th_in L 46 23 = false) (B : Int) : mo_ce G H1 a B = mo_ce G H a B := by
  unfold mo_ce
  rw [mo_v_F (r := 48) hI hF ha rfl ro_48 hL.1 hL.2.1, mo_f_F hF ha (by decide) hL.2.2]
/-- the tokens that are read -/
def mo_cr (G : th_G) (H : Heap) (a : Nat) : Int → Int := mo_tf (mo_v G H a 15) 0 (mo_f G H a 18)
theorem mo_cr_F (hI : th_I G Γ H1) (hF : th_F G Γ L H H1) (ha : Γ a = (46, 0)) (hL : th_in L 46 15 = false ∧ th_in L 55 0 = false ∧ th_in L 46 18 = false) : mo_cr G H1 a = mo_cr G H a := by
  unfold mo_cr
  rw [mo_v_F (r := 55) hI hF ha rfl ro_55 hL.1 hL.2.1, mo_f_F hF ha (by decide) hL.2.2]
theorem mo_ss_l {k : Int → Int} {c : Int} (h0 : 0 ≤ c) (hl : k (9 + c) ≠ -1) : mo_ss k (c + 1).toNat = mo_ss k c.toNat + k (29 + c) * k (29 + c) := by
  have e : (c + 1).toNat = c.toNat + 1 := by omega
  rw [e]
  show mo_ss k c.toNat + (if k (9 + (c.toNat : Int)) = -1 then 0 else k (29 + (c.toNat : Int)) * k (29 + (c.toNat : Int))) = _
  rw [Int.toNat_of_nonneg h0, if_neg hl]
theorem mo_ss_n {k : Int → Int} {c : Int} (h0 : 0 ≤ c) (hl : k (9 + c) = -1) : mo_ss k (c + 1).toNat = mo_ss k c.toNat := by
  have e : (c + 1).toNat = c.toNat + 1 := by omega
  rw [e]
  show mo_ss k c.toNat + (if k (9 + (c.toNat : Int)) = -1 then 0 else k (29 + (c.toNat : Int)) * k (29 + (c.toNat : Int))) = _
  rw [Int.toNat_of_nonneg h0, if_pos hl, Int.add_zero]
theorem ek_side0 {b : Int} (h0 : 29 ≤ b) (h1 : b ≤ 37) : th_esk b.toNat = (0, 0, 12) := by
  unfold th_esk th_any; (repeat' split) <;> first | rfl | omega
theorem mo_side (hI : th_I G Γ H) (ha : Γ a = (46, 0)) {c : Int} (h0 : 0 ≤ c) (h1 : c ≤ 8) : 0 ≤ mo_v G H a 2 (29 + c) ∧ mo_v G H a 2 (29 + c) ≤ 12 := mo_v_rg hI ha (r := 48) rfl ro_48 (by omega) (by omega) (ek_side0 (by omega) (by omega))
theorem ek_many0 {b : Int} (h0 : 69 ≤ b) (h1 : b ≤ 69) : th_esk b.toNat = (0, 0, 9) := by
  unfold th_esk th_any; (repeat' split) <;> first | rfl | omega
theorem ek_hall0 {b : Int} (h0 : 67 ≤ b) (h1 : b ≤ 68) : th_esk b.toNat = (0, 0, 12) := by
  unfold th_esk th_any; (repeat' split) <;> first | rfl | omega
theorem mo_many (hI : th_I G Γ H) (ha : Γ a = (46, 0)) : 0 ≤ mo_v G H a 2 69 ∧ mo_v G H a 2 69 ≤ 9 := mo_v_rg hI ha (r := 48) rfl ro_48 (by omega) (by decide) (ek_many0 (by omega) (by omega))
theorem mo_wide (hI : th_I G Γ H) (ha : Γ a = (46, 0)) : 0 ≤ mo_v G H a 2 67 ∧ mo_v G H a 2 67 ≤ 12 := mo_v_rg hI ha (r := 48) rfl ro_48 (by omega) (by decide) (ek_hall0 (by omega) (by omega))
theorem mo_high (hI : th_I G Γ H) (ha : Γ a = (46, 0)) : 0 ≤ mo_v G H a 2 68 ∧ mo_v G H a 2 68 ≤ 12 := mo_v_rg hI ha (r := 48) rfl ro_48 (by omega) (by decide) (ek_hall0 (by omega) (by omega))
theorem mo_ss_b (hI : th_I G Γ H) (ha : Γ a = (46, 0)) {n : Nat} (hn : n ≤ 9) : mo_ss (mo_v G H a 2) n ≤ 144 * (n : Int) := by
  induction n with
  | zero => exact Int.le_refl _
  | succ n ih =>
    have h1 := ih (by omega)
    have h2 := mo_side hI ha (c := (n : Int)) (by omega) (by omega)
    have h3 := ti_mulr (A := 12) (B := 12) h2.1 h2.2 h2.1 h2.2
    simp only [mo_ss]
    split <;> omega
end MO4
