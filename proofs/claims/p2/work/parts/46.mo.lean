section MO1
variable {G : th_G} {Γ : th_Ga} {H H1 H2 : Heap}
def mo_i (v : Value) : Int32 := match v with | .int x => x | _ => 0
def mo_b (v : Value) : Nat := match v with | .ref b => b | _ => 0
/-- field j of the reference's object -/
def mo_f (G : th_G) (H : Heap) (a j : Nat) : Int := (mo_i (th_sl H a (G.1.2 12 j))).toInt
/-- the row in its field j -/
def mo_x (G : th_G) (H : Heap) (a j : Nat) (z : Int) : Int32 := if z < 0 then 0 else mo_i (th_sl H (mo_b (th_sl H a (G.1.2 12 j))) z.toNat)
def mo_v (G : th_G) (H : Heap) (a j : Nat) (z : Int) : Int := (mo_x G H a j z).toInt
def mo_u {α : Type} (f : Int → α) (i : Int) (v : α) : Int → α := fun z => if z = i then v else f z
theorem mo_us {α : Type} {f : Int → α} {i z : Int} {v : α} (h : z = i) : mo_u f i v z = v := if_pos h
theorem mo_un {α : Type} {f : Int → α} {i z : Int} {v : α} (h : z ≠ i) : mo_u f i v z = f z := if_neg h
theorem mo_fat {a j : Nat} {x : Int32} (h : th_sl H a (G.1.2 12 j) = .int x) : mo_f G H a j = x.toInt := by
  unfold mo_f; rw [h]; rfl
theorem mo_xat {a j b : Nat} {z : Int} {x : Int32} (hb : th_sl H a (G.1.2 12 j) = .ref b) (hx : th_sl H b z.toNat = .int x) (h0 : 0 ≤ z) : mo_x G H a j z = x := by
  unfold mo_x
  rw [if_neg (by omega), hb]
  show mo_i (th_sl H b z.toNat) = x
  rw [hx]
  rfl
theorem mo_vat {a j b : Nat} {z : Int} {x : Int32} (hb : th_sl H a (G.1.2 12 j) = .ref b) (hx : th_sl H b z.toNat = .int x) (h0 : 0 ≤ z) : mo_v G H a j z = x.toInt := by
  unfold mo_v; rw [mo_xat hb hx h0]
theorem mo_f_F {L : List (Nat × Nat)} (hF : th_F G Γ L H H1) {a o j : Nat} (ha : Γ a = (46, o)) (hj : j < 57) (hL : th_in L 46 j = false) : mo_f G H1 a j = mo_f G H a j := by
  unfold mo_f
  rw [th_F_o hF ha ro_46 (j := j) hj hL]
theorem mo_f_St {a j : Nat} {v : Int32} (hst : th_St H H1 a (G.1.2 12 j) (.int v)) : mo_f G H1 a j = v.toInt := mo_fat hst.2.1
theorem mo_x_F {L : List (Nat × Nat)} (hI : th_I G Γ H1) (hF : th_F G Γ L H H1) {a o j r : Nat} {hi : Int} {x : Nat × Nat × Nat × (Nat → th_sp)} (ha : Γ a = (46, o)) (hq : th_f46[j]? = some (4, (r : Int), hi)) (hr : th_ro r = some (.inr x)) (hL : th_in L 46 j = false) (hL2 : th_in L r 0 = false) : mo_x G H1 a j = mo_x G H a j := by
  obtain ⟨b, m1, g1⟩ := th_fo hI ha ro_46 hq
  have e := th_F_o hF ha ro_46 (j := j) (List.getElem?_eq_some_iff.mp hq).1 hL
  have m2 : th_sl H a (G.1.2 12 j) = .ref b := e.symm.trans m1
  funext z
  unfold mo_x
  rw [m1, m2]
  show (if z < 0 then 0 else mo_i (th_sl H1 b z.toNat)) = (if z < 0 then 0 else mo_i (th_sl H b z.toNat))
  rw [th_F_a hF g1 hr hL2]
theorem mo_v_F {L : List (Nat × Nat)} (hI : th_I G Γ H1) (hF : th_F G Γ L H H1) {a o j r : Nat} {hi : Int} {x : Nat × Nat × Nat × (Nat → th_sp)} (ha : Γ a = (46, o)) (hq : th_f46[j]? = some (4, (r : Int), hi)) (hr : th_ro r = some (.inr x)) (hL : th_in L 46 j = false) (hL2 : th_in L r 0 = false) : mo_v G H1 a j = mo_v G H a j := by
  funext z
  unfold mo_v
  rw [mo_x_F hI hF ha hq hr hL hL2]
theorem mo_x_st {a o j b r : Nat} {v : Int32} {z : Int} (ha : Γ a = (46, o)) (hb : Γ b = (r, a)) (hne : r ≠ 46) (mb : th_sl H a (G.1.2 12 j) = .ref b) (hst : th_St H H1 b z.toNat (.int v)) (h0 : 0 ≤ z) : mo_x G H1 a j = mo_u (mo_x G H a j) z v := by
  obtain ⟨-, s1, s2, s3, -⟩ := hst
  have hab : a ≠ b := fun e => by
    rw [← e, ha] at hb
    exact hne (Prod.mk.inj hb).1.symm
  funext y
  unfold mo_x mo_u
  rw [th_sl_kept (s3 a hab), mb]
  show (if y < 0 then 0 else mo_i (th_sl H1 b y.toNat)) = (if y = z then v else if y < 0 then 0 else mo_i (th_sl H b y.toNat))
  by_cases h1 : y = z
  · rw [if_pos h1, if_neg (by omega), h1, s1]
    rfl
  · rw [if_neg h1]
    by_cases h2 : y < 0
    · rw [if_pos h2, if_pos h2]
    · rw [if_neg h2, if_neg h2, s2 _ (by omega)]
theorem mo_v_st {a o j b r : Nat} {v : Int32} {z : Int} (ha : Γ a = (46, o)) (hb : Γ b = (r, a)) (hne : r ≠ 46) (mb : th_sl H a (G.1.2 12 j) = .ref b) (hst : th_St H H1 b z.toNat (.int v)) (h0 : 0 ≤ z) : mo_v G H1 a j = mo_u (mo_v G H a j) z v.toInt := by
  funext y
  unfold mo_v
  rw [mo_x_st ha hb hne mb hst h0]
  unfold mo_u
  split <;> rfl
/-- a row's values are as its role says -/
theorem mo_v_rg (hI : th_I G Γ H) {a o j r t n1 n2 : Nat} {hi : Int} {es : Nat → th_sp} (ha : Γ a = (46, o)) (hq : th_f46[j]? = some (4, (r : Int), hi)) (hr : th_ro r = some (.inr (t, n1, n2, es))) {z lo up : Int} (h0 : 0 ≤ z) (h1 : z < (n1 : Int)) (he : es z.toNat = (0, lo, up)) : lo ≤ mo_v G H a j z ∧ mo_v G H a j z ≤ up := by
  obtain ⟨b, m1, g1⟩ := th_fo hI ha ro_46 hq
  obtain ⟨n, q1, q2, q3, q4, q5⟩ := th_ald0 hI g1 hr
  have h := q5 z.toNat (by omega)
  rw [he] at h
  obtain ⟨x, e1, e2, e3⟩ := h
  rw [mo_vat m1 e1 h0]
  exact ⟨e2, e3⟩
end MO1
section MO2
def mo_sm (f : Nat → Int) : Nat → Int
  | 0 => 0
  | n + 1 => mo_sm f n + f n
theorem mo_sm_add (f g : Nat → Int) (n : Nat) : mo_sm (fun i => f i + g i) n = mo_sm f n + mo_sm g n := by
  induction n with
  | zero => rfl
  | succ n ih => simp only [mo_sm, ih]; omega
theorem mo_sm_le {f g : Nat → Int} {n : Nat} (h : ∀ i, i < n → f i ≤ g i) : mo_sm f n ≤ mo_sm g n := by
  induction n with
  | zero => exact Int.le_refl _
  | succ n ih =>
    have h1 := ih (fun i hi => h i (by omega))
    have h2 := h n (by omega)
    simp only [mo_sm]
    omega
theorem mo_sm_eq {f g : Nat → Int} {n : Nat} (h : ∀ i, i < n → f i = g i) : mo_sm f n = mo_sm g n := by
  induction n with
  | zero => rfl
  | succ n ih =>
    have h1 := ih (fun i hi => h i (by omega))
    have h2 := h n (by omega)
    simp only [mo_sm]
    omega
theorem mo_sm_c (c : Int) (n : Nat) : mo_sm (fun _ => c) n = (n : Int) * c := by
  induction n with
  | zero => simp [mo_sm]
  | succ n ih =>
    have e : ((n + 1 : Nat) : Int) = (n : Int) + 1 := by omega
    simp only [mo_sm, ih]
    rw [e, Int.add_mul, Int.one_mul]
def mo_cl (a s : Int) (n : Nat) : Int := if (n : Int) ≤ a then 0 else if (n : Int) ≤ a + s then n - a else s
theorem mo_sm_in (a s w : Int) (ha : 0 ≤ a) (hs : 0 ≤ s) (n : Nat) : mo_sm (fun i => if a ≤ (i : Int) ∧ (i : Int) < a + s then w else 0) n = mo_cl a s n * w := by
  induction n with
  | zero =>
    have e : mo_cl a s 0 = 0 := by unfold mo_cl; rw [if_pos (by omega)]
    rw [e, Int.zero_mul]
    rfl
  | succ n ih =>
    simp only [mo_sm, ih]
    by_cases h1 : a ≤ (n : Int) ∧ (n : Int) < a + s
    · rw [if_pos h1]
      have e : mo_cl a s (n + 1) = mo_cl a s n + 1 := by unfold mo_cl; (repeat' split) <;> omega
      rw [e, Int.add_mul, Int.one_mul]
    · rw [if_neg h1]
      have e : mo_cl a s (n + 1) = mo_cl a s n := by unfold mo_cl; (repeat' split) <;> omega
      rw [e, Int.add_zero]
theorem mo_cl_s {a s : Int} {n : Nat} (hs : 0 ≤ s) (ha : 0 ≤ a) (h : a + s ≤ (n : Int)) : mo_cl a s n = s := by
  unfold mo_cl; (repeat' split) <;> omega
/-- carpet c, as the row k has it, covers a cell -/
abbrev mo_co (k : Int → Int) (c x y : Int) : Prop := k (9 + c) ≠ -1 ∧ k (9 + c) ≤ x ∧ x < k (9 + c) + k (29 + c) ∧ k (18 + c) ≤ y ∧ y < k (18 + c) + k (29 + c)
def mo_ap (k : Int → Int) (c d : Int) : Prop := k (9 + c) + k (29 + c) ≤ k (9 + d) ∨ k (9 + d) + k (29 + d) ≤ k (9 + c) ∨ k (18 + c) + k (29 + c) ≤ k (18 + d) ∨ k (18 + d) + k (29 + d) ≤ k (18 + c)
def mo_geo (k : Int → Int) : Prop := k 69 ≤ 9 ∧ (∀ c, 0 ≤ c → c < k 69 → k (9 + c) ≠ -1 → 1 ≤ k (29 + c) ∧ 0 ≤ k (9 + c) ∧ 0 ≤ k (18 + c) ∧ k (9 + c) + k (29 + c) ≤ k 67 ∧ k (18 + c) + k (29 + c) ≤ k 68) ∧ ∀ c d, 0 ≤ c → c < k 69 → 0 ≤ d → d < k 69 → c ≠ d → k (9 + c) ≠ -1 → k (9 + d) ≠ -1 → mo_ap k c d
def mo_ss (k : Int → Int) : Nat → Int
  | 0 => 0
  | n + 1 => mo_ss k n + if k (9 + (n : Int)) = -1 then 0 else k (29 + (n : Int)) * k (29 + (n : Int))
def mo_cc (k : Int → Int) (x y : Int) : Nat → Int
  | 0 => 0
  | n + 1 => mo_cc k x y n + if mo_co k (n : Int) x y then 1 else 0
theorem mo_co1 {k : Int → Int} (hg : mo_geo k) {c d x y : Int} (hc0 : 0 ≤ c) (hc : c < k 69) (hd0 : 0 ≤ d) (hd : d < k 69) (h1 : mo_co k c x y) (h2 : mo_co k d x y) : c = d := by
  rcases Int.lt_or_le c d with h | h
  · have := hg.2.2 c d hc0 hc hd0 hd (by omega) h1.1 h2.1
    unfold mo_ap at this
    obtain ⟨-, a1, a2, a3, a4⟩ := h1
    obtain ⟨-, b1, b2, b3, b4⟩ := h2
    omega
  · rcases Int.lt_or_le d c with h' | h'
    · have := hg.2.2 c d hc0 hc hd0 hd (by omega) h1.1 h2.1
      unfold mo_ap at this
      obtain ⟨-, a1, a2, a3, a4⟩ := h1
      obtain ⟨-, b1, b2, b3, b4⟩ := h2
      omega
    · omega
theorem mo_cc_le {k : Int → Int} (hg : mo_geo k) (x y : Int) (n : Nat) (hn : (n : Int) ≤ k 69) : mo_cc k x y n ≤ 1 ∧ (1 ≤ mo_cc k x y n → ∃ c : Nat, c < n ∧ mo_co k (c : Int) x y) := by
  induction n with
  | zero => exact ⟨by simp only [mo_cc]; omega, fun h => by simp only [mo_cc] at h; omega⟩
  | succ n ih =>
    obtain ⟨h1, h2⟩ := ih (by omega)
    simp only [mo_cc]
    by_cases hc : mo_co k (n : Int) x y
    · rw [if_pos hc]
      have h4 : ¬ 1 ≤ mo_cc k x y n := fun q => by
        obtain ⟨c, hc1, hc2⟩ := h2 q
        have := mo_co1 hg (by omega) (by omega) (by omega) (by omega) hc2 hc
        omega
      exact ⟨by omega, fun _ => ⟨n, by omega, hc⟩⟩
    · rw [if_neg hc]
      refine ⟨by omega, fun q => ?_⟩
      obtain ⟨c, hc1, hc2⟩ := h2 (by omega)
      exact ⟨c, by omega, hc2⟩
theorem mo_ar {k : Int → Int} (hg : mo_geo k) {W Z : Nat} (hW : (W : Int) = k 67) (hZ : (Z : Int) = k 68) (n : Nat) (hn : (n : Int) ≤ k 69) : mo_sm (fun y => mo_sm (fun x => mo_cc k (x : Int) (y : Int) n) W) Z = mo_ss k n := by
  induction n with
  | zero =>
    have e : (fun y : Nat => mo_sm (fun x => mo_cc k (x : Int) (y : Int) 0) W) = fun _ => (0 : Int) := by
      funext y
      show mo_sm (fun _ => (0 : Int)) W = 0
      rw [mo_sm_c, Int.mul_zero]
    rw [e, mo_sm_c, Int.mul_zero]
    rfl
  | succ n ih =>
    have e : (fun y : Nat => mo_sm (fun x => mo_cc k (x : Int) (y : Int) (n + 1)) W) = fun y : Nat => mo_sm (fun x => mo_cc k (x : Int) (y : Int) n) W + mo_sm (fun x => if mo_co k (n : Int) (x : Int) (y : Int) then 1 else 0) W := by
      funext y
      rw [← mo_sm_add]
      rfl
    rw [e, mo_sm_add, ih (by omega)]
    simp only [mo_ss]
    congr 1
    by_cases hl : k (9 + (n : Int)) = -1
    · rw [if_pos hl]
      have e2 : (fun y : Nat => mo_sm (fun x : Nat => if mo_co k (n : Int) (x : Int) (y : Int) then (1 : Int) else 0) W) = fun _ => (0 : Int) := by
        funext y
        have e3 : (fun x : Nat => if mo_co k (n : Int) (x : Int) (y : Int) then (1 : Int) else 0) = fun _ => (0 : Int) := by
          funext x
          exact if_neg (fun q => q.1 hl)
        rw [e3, mo_sm_c, Int.mul_zero]
      rw [e2, mo_sm_c, Int.mul_zero]
    · rw [if_neg hl]
      obtain ⟨g1, g2, g3, g4, g5⟩ := hg.2.1 (n : Int) (by omega) (by omega) hl
      have e2 : (fun y : Nat => mo_sm (fun x : Nat => if mo_co k (n : Int) (x : Int) (y : Int) then (1 : Int) else 0) W) = fun y : Nat => if k (18 + (n : Int)) ≤ (y : Int) ∧ (y : Int) < k (18 + (n : Int)) + k (29 + (n : Int)) then k (29 + (n : Int)) else 0 := by
        funext y
        by_cases hy : k (18 + (n : Int)) ≤ (y : Int) ∧ (y : Int) < k (18 + (n : Int)) + k (29 + (n : Int))
        · rw [if_pos hy]
          have e3 : mo_sm (fun x : Nat => if mo_co k (n : Int) (x : Int) (y : Int) then (1 : Int) else 0) W = mo_sm (fun x : Nat => if k (9 + (n : Int)) ≤ (x : Int) ∧ (x : Int) < k (9 + (n : Int)) + k (29 + (n : Int)) then (1 : Int) else 0) W := by
            apply mo_sm_eq
            intro x _
            by_cases hx : k (9 + (n : Int)) ≤ (x : Int) ∧ (x : Int) < k (9 + (n : Int)) + k (29 + (n : Int))
            · rw [if_pos hx, if_pos ⟨hl, hx.1, hx.2, hy.1, hy.2⟩]
            · rw [if_neg hx, if_neg (fun q => hx ⟨q.2.1, q.2.2.1⟩)]
          rw [e3, mo_sm_in _ _ _ g2 (by omega), mo_cl_s (by omega) g2 (by omega), Int.mul_one]
        · rw [if_neg hy]
          have e3 : (fun x : Nat => if mo_co k (n : Int) (x : Int) (y : Int) then (1 : Int) else 0) = fun _ => (0 : Int) := by
            funext x
            exact if_neg (fun q => hy ⟨q.2.2.2.1, q.2.2.2.2⟩)
          rw [e3, mo_sm_c, Int.mul_zero]
      rw [e2, mo_sm_in _ _ _ g3 (by omega), mo_cl_s (by omega) g3 (by omega)]
theorem mo_ss_le {k : Int → Int} (hg : mo_geo k) (h1 : 0 ≤ k 67) (h2 : 0 ≤ k 68) {n : Nat} (hn : (n : Int) ≤ k 69) : mo_ss k n ≤ k 67 * k 68 := by
  have hW : ((k 67).toNat : Int) = k 67 := Int.toNat_of_nonneg h1
  have hZ : ((k 68).toNat : Int) = k 68 := Int.toNat_of_nonneg h2
  rw [← mo_ar hg hW hZ n hn]
  have h3 : mo_sm (fun y => mo_sm (fun x => mo_cc k (x : Int) (y : Int) n) (k 67).toNat) (k 68).toNat ≤ mo_sm (fun _ => k 67) (k 68).toNat := by
    apply mo_sm_le
    intro y _
    have h4 : mo_sm (fun x => mo_cc k (x : Int) (y : Int) n) (k 67).toNat ≤ mo_sm (fun _ => 1) (k 67).toNat := mo_sm_le (fun x _ => (mo_cc_le hg x y n hn).1)
    rw [mo_sm_c, Int.mul_one, hW] at h4
    exact h4
  rw [mo_sm_c, hZ, Int.mul_comm] at h3
  exact h3
theorem mo_ss_0 {k : Int → Int} (n : Nat) : 0 ≤ mo_ss k n := by
  induction n with
  | zero => exact Int.le_refl _
  | succ n ih =>
    simp only [mo_ss]
    split
    · omega
    · have : 0 ≤ k (29 + (n : Int)) * k (29 + (n : Int)) := by
        rcases Int.lt_or_le (k (29 + (n : Int))) 0 with h | h
        · exact Int.le_of_lt (Int.mul_pos_of_neg_of_neg h h)
        · exact Int.mul_nonneg h h
      omega
def mo_pa (k : Int → Int) (x y : Int) : Nat → Bool
  | 0 => false
  | n + 1 => (mo_pa k x y n) ^^ decide (mo_co k (n : Int) x y)
theorem mo_pa_t {k : Int → Int} (hg : mo_geo k) (x y : Int) (n : Nat) (hn : (n : Int) ≤ k 69) : ((∃ c : Nat, c < n ∧ mo_co k (c : Int) x y) → mo_pa k x y n = true) ∧ ((¬ ∃ c : Nat, c < n ∧ mo_co k (c : Int) x y) → mo_pa k x y n = false) := by
  induction n with
  | zero => exact ⟨fun ⟨c, h, _⟩ => absurd h (by omega), fun _ => rfl⟩
  | succ n ih =>
    obtain ⟨h1, h2⟩ := ih (by omega)
    by_cases hc : mo_co k (n : Int) x y
    · have h4 : mo_pa k x y n = false := h2 (fun ⟨c, hc1, hc2⟩ => by
        have := mo_co1 hg (by omega) (by omega) (by omega) (by omega) hc2 hc
        omega)
      refine ⟨fun _ => ?_, fun q => absurd ⟨n, by omega, hc⟩ q⟩
      simp only [mo_pa, h4, decide_eq_true hc, Bool.false_xor]
    · have e : mo_pa k x y (n + 1) = mo_pa k x y n := by simp only [mo_pa, decide_eq_false hc, Bool.xor_false]
      rw [e]
      refine ⟨fun ⟨c, c1, c2⟩ => h1 ⟨c, ?_, c2⟩, fun q => h2 (fun ⟨c, c1, c2⟩ => q ⟨c, by omega, c2⟩)⟩
      have : c ≠ n := fun e => hc (e ▸ c2)
      omega
/-- the masks of the reference's rows -/
def mo_mk (s x : Int32) : Int32 := (((1 : Int32) <<< (s &&& 31)) - 1) <<< (x &&& 31)
theorem mo_mk0 : ∀ n, n < 13 → ∀ m, m < 12 → ∀ j, j < 12 → (mo_mk (nI n) (nI m)).toBitVec.getLsbD j = decide (m ≤ j ∧ j < m + n) := by decide +kernel
theorem mo_nI {x : Int32} {N : Nat} (h0 : 0 ≤ x.toInt) (h1 : x.toInt < (N : Int)) : ∃ n : Nat, n < N ∧ x = nI n ∧ x.toInt = (n : Int) := by
  refine ⟨x.toInt.toNat, by omega, ?_, by omega⟩
  apply Int32.toInt_inj.mp
  have := ti_hi x
  rw [nI_toInt (by omega)]
  omega
theorem mo_mk_bit {s x : Int32} (hs0 : 0 ≤ s.toInt) (hs : s.toInt ≤ 12) (hx0 : 0 ≤ x.toInt) (hx : x.toInt ≤ 11) {j : Nat} (hj : j < 12) (h1 : x.toInt ≤ (j : Int)) (h2 : (j : Int) < x.toInt + s.toInt) : (mo_mk s x).toBitVec.getLsbD j = true := by
  obtain ⟨n, n1, n2, n3⟩ := mo_nI (N := 13) hs0 (by omega)
  obtain ⟨m, m1, m2, m3⟩ := mo_nI (N := 12) hx0 (by omega)
  rw [n2, m2, mo_mk0 n n1 m m1 j hj]
  exact decide_eq_true ⟨by omega, by omega⟩
theorem mo_mk_bit0 {s x : Int32} (hs0 : 0 ≤ s.toInt) (hs : s.toInt ≤ 12) (hx0 : 0 ≤ x.toInt) (hx : x.toInt ≤ 11) {j : Nat} (hj : j < 12) : (mo_mk s x).toBitVec.getLsbD j = decide (x.toInt ≤ (j : Int) ∧ (j : Int) < x.toInt + s.toInt) := by
  obtain ⟨n, n1, n2, n3⟩ := mo_nI (N := 13) hs0 (by omega)
  obtain ⟨m, m1, m2, m3⟩ := mo_nI (N := 12) hx0 (by omega)
  rw [n3, m3, n2, m2, mo_mk0 n n1 m m1 j hj]
  apply decide_eq_decide.mpr
  omega
def mo_bt (x : Int32) (k : Int) : Prop := x.toBitVec.getLsbD k.toNat = true
theorem mo_sh0 : ∀ n, n < 12 → ((nI n) &&& 31) = nI n := by decide +kernel
theorem mo_bt_of {x k y z : Int32} (hk0 : 0 ≤ k.toInt) (hk : k.toInt ≤ 11) (ey : y = x >>> (k &&& 31)) (ez : z = y &&& 1) (h : z.toInt = 1) : mo_bt x k.toInt := by
  obtain ⟨n, n1, n2, n3⟩ := mo_nI (N := 12) hk0 (by omega)
  have h1 : z = 1 := Int32.toInt_inj.mp h
  have h2 := congrArg (fun v : Int32 => v.toBitVec.getLsbD 0) (ez.symm.trans h1)
  simp only [Int32.toBitVec_and, BitVec.getLsbD_and] at h2
  have h3 : (1 : Int32).toBitVec.getLsbD 0 = true := by decide
  rw [h3, Bool.and_true] at h2
  unfold mo_bt
  rw [n3]
  show x.toBitVec.getLsbD n = true
  rw [ey, n2, mo_sh0 n n1, Int32.toBitVec_shiftRight] at h2
  have h4 : (nI n).toBitVec.smod 32 = BitVec.ofNat 32 n := by
    have : ∀ n, n < 12 → (nI n).toBitVec.smod 32 = BitVec.ofNat 32 n := by decide +kernel
    exact this n n1
  rw [h4, BitVec.sshiftRight_eq', BitVec.toNat_ofNat, Nat.mod_eq_of_lt (by omega), BitVec.getLsbD_sshiftRight] at h2
  simpa [show ¬ 32 ≤ 0 by omega, show n < 32 by omega] using h2
def mo_pc (x : Int32) : Nat := (x.toBitVec.getLsbD 0).toNat + (x.toBitVec.getLsbD 1).toNat + (x.toBitVec.getLsbD 2).toNat + (x.toBitVec.getLsbD 3).toNat + (x.toBitVec.getLsbD 4).toNat + (x.toBitVec.getLsbD 5).toNat + (x.toBitVec.getLsbD 6).toNat + (x.toBitVec.getLsbD 7).toNat + (x.toBitVec.getLsbD 8).toNat
theorem mo_tn (b : Bool) : b.toNat ≤ 1 := by cases b <;> decide
theorem mo_pc9 (x : Int32) : mo_pc x ≤ 9 := by
  unfold mo_pc
  have h0 := mo_tn (x.toBitVec.getLsbD 0)
  have h1 := mo_tn (x.toBitVec.getLsbD 1)
  have h2 := mo_tn (x.toBitVec.getLsbD 2)
  have h3 := mo_tn (x.toBitVec.getLsbD 3)
  have h4 := mo_tn (x.toBitVec.getLsbD 4)
  have h5 := mo_tn (x.toBitVec.getLsbD 5)
  have h6 := mo_tn (x.toBitVec.getLsbD 6)
  have h7 := mo_tn (x.toBitVec.getLsbD 7)
  have h8 := mo_tn (x.toBitVec.getLsbD 8)
  omega
theorem mo_nb : ∀ n, n < 9 → ∀ j, j < 9 → (((1 : Int32) <<< (nI n &&& 31)) ^^^ (-1)).toBitVec.getLsbD j = decide (j ≠ n) := by decide +kernel
theorem mo_pc_drop {x c z1 z2 z3 : Int32} (h0 : 0 ≤ c.toInt) (h1 : c.toInt ≤ 8) (hb : mo_bt x c.toInt) (e1 : z1 = 1 <<< (c &&& 31)) (e2 : z2 = z1 ^^^ (-1)) (e3 : z3 = x &&& z2) : mo_pc z3 + 1 = mo_pc x := by
  obtain ⟨n, n1, n2, n3⟩ := mo_nI (N := 9) h0 (by omega)
  unfold mo_bt at hb
  rw [n3] at hb
  have hb : x.toBitVec.getLsbD n = true := hb
  have ez : ∀ j, j < 9 → z3.toBitVec.getLsbD j = (x.toBitVec.getLsbD j && decide (j ≠ n)) := by
    intro j hj
    rw [e3, Int32.toBitVec_and, BitVec.getLsbD_and, e2, e1, n2, mo_nb n n1 j hj]
  unfold mo_pc
  rw [ez 0 (by decide), ez 1 (by decide), ez 2 (by decide), ez 3 (by decide), ez 4 (by decide), ez 5 (by decide), ez 6 (by decide), ez 7 (by decide), ez 8 (by decide)]
  suffices key : ∀ b : Nat → Bool, b n = true → (b 0 && decide (0 ≠ n)).toNat + (b 1 && decide (1 ≠ n)).toNat + (b 2 && decide (2 ≠ n)).toNat + (b 3 && decide (3 ≠ n)).toNat + (b 4 && decide (4 ≠ n)).toNat + (b 5 && decide (5 ≠ n)).toNat + (b 6 && decide (6 ≠ n)).toNat + (b 7 && decide (7 ≠ n)).toNat + (b 8 && decide (8 ≠ n)).toNat + 1 = (b 0).toNat + (b 1).toNat + (b 2).toNat + (b 3).toNat + (b 4).toNat + (b 5).toNat + (b 6).toNat + (b 7).toNat + (b 8).toNat from key (fun j => x.toBitVec.getLsbD j) hb
  clear ez e1 e2 e3 n2 n3 h0 h1 hb
  intro b hb
  have hn : n = 0 ∨ n = 1 ∨ n = 2 ∨ n = 3 ∨ n = 4 ∨ n = 5 ∨ n = 6 ∨ n = 7 ∨ n = 8 := by omega
  rcases hn with rfl | rfl | rfl | rfl | rfl | rfl | rfl | rfl | rfl <;> simp [hb] <;> omega
/-- carpet c would lie at x, y within the hall, and apart from all that are laid -/
def mo_fr (k : Int → Int) (c x y : Int) : Prop := x + k (29 + c) ≤ k 67 ∧ y + k (29 + c) ≤ k 68 ∧ ∀ d, 0 ≤ d → d < k 69 → k (9 + d) ≠ -1 → x + k (29 + c) ≤ k (9 + d) ∨ k (9 + d) + k (29 + d) ≤ x ∨ y + k (29 + c) ≤ k (18 + d) ∨ k (18 + d) + k (29 + d) ≤ y
/-- the reference's covered rows are those of the laid carpets -/
def mo_cv (k : Int → Int) (cv : Int → Int32) : Prop := ∀ (y : Int), 0 ≤ y → y < 12 → ∀ x : Nat, x < 12 → (cv y).toBitVec.getLsbD x = mo_pa k (x : Int) y (k 69).toNat
theorem mo_fr_of {k : Int → Int} {cv : Int → Int32} {c : Int} {s x : Int32} {y : Int} (hg : mo_geo k) (h67 : k 67 ≤ 12) (h68 : k 68 ≤ 12) (hm : 0 ≤ k 69) (hc : mo_cv k cv) (hs : s.toInt = k (29 + c)) (hs1 : 1 ≤ k (29 + c)) (hx0 : 0 ≤ x.toInt) (hx : x.toInt ≤ 11) (hy0 : 0 ≤ y) (f1 : x.toInt + s.toInt ≤ k 67) (f2 : y + s.toInt ≤ k 68) (hz : ∀ z, y ≤ z → z < y + s.toInt → cv z &&& mo_mk s x = 0) : mo_fr k c x.toInt y := by
  refine ⟨by omega, by omega, fun d hd0 hd hl => ?_⟩
  apply Classical.byContradiction
  intro hn
  obtain ⟨g1, g2, g3, g4, g5⟩ := hg.2.1 d hd0 hd hl
  have hX : ∃ X : Int, x.toInt ≤ X ∧ X < x.toInt + s.toInt ∧ k (9 + d) ≤ X ∧ X < k (9 + d) + k (29 + d) := by
    rcases Int.lt_or_le x.toInt (k (9 + d)) with q | q
    · exact ⟨k (9 + d), by omega, by omega, by omega, by omega⟩
    · exact ⟨x.toInt, by omega, by omega, by omega, by omega⟩
  have hY : ∃ Y : Int, y ≤ Y ∧ Y < y + s.toInt ∧ k (18 + d) ≤ Y ∧ Y < k (18 + d) + k (29 + d) := by
    rcases Int.lt_or_le y (k (18 + d)) with q | q
    · exact ⟨k (18 + d), by omega, by omega, by omega, by omega⟩
    · exact ⟨y, by omega, by omega, by omega, by omega⟩
  obtain ⟨X, X1, X2, X3, X4⟩ := hX
  obtain ⟨Y, Y1, Y2, Y3, Y4⟩ := hY
  have eX : ((X.toNat : Nat) : Int) = X := Int.toNat_of_nonneg (by omega)
  have hb := congrArg (fun v : Int32 => v.toBitVec.getLsbD X.toNat) (hz Y Y1 Y2)
  simp only [Int32.toBitVec_and, BitVec.getLsbD_and] at hb
  have hp : mo_pa k ((X.toNat : Nat) : Int) Y (k 69).toNat = true := (mo_pa_t hg _ _ _ (by omega)).1 ⟨d.toNat, by omega, by
    have ed : ((d.toNat : Nat) : Int) = d := Int.toNat_of_nonneg hd0
    rw [eX, ed]
    exact ⟨hl, X3, X4, Y3, Y4⟩⟩
  rw [hc Y (by omega) (by omega) X.toNat (by omega), hp, mo_mk_bit (by omega) (by omega) hx0 hx (by omega) (by omega) (by omega)] at hb
  have h0 : (0 : Int32).toBitVec = 0#32 := rfl
  rw [h0] at hb
  simp at hb
end MO2
