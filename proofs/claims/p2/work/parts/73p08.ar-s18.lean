section QAR
def ma_sm (f : Nat → Int) : Nat → Int
  | 0 => 0
  | n + 1 => ma_sm f n + f n
theorem ma_sm_add (f g : Nat → Int) (n : Nat) : ma_sm (fun i => f i + g i) n = ma_sm f n + ma_sm g n := by
  induction n with
  | zero => rfl
  | succ n ih => simp only [ma_sm, ih]; omega
theorem ma_sm_le {f g : Nat → Int} {n : Nat} (h : ∀ i, i < n → f i ≤ g i) : ma_sm f n ≤ ma_sm g n := by
  induction n with
  | zero => exact Int.le_refl _
  | succ n ih =>
    have h1 := ih (fun i hi => h i (by omega))
    have h2 := h n (by omega)
    simp only [ma_sm]
    omega
theorem ma_sm_eq {f g : Nat → Int} {n : Nat} (h : ∀ i, i < n → f i = g i) : ma_sm f n = ma_sm g n := by
  induction n with
  | zero => rfl
  | succ n ih =>
    have h1 := ih (fun i hi => h i (by omega))
    have h2 := h n (by omega)
    simp only [ma_sm]
    omega
theorem ma_sm_c (c : Int) (n : Nat) : ma_sm (fun _ => c) n = (n : Int) * c := by
  induction n with
  | zero => simp [ma_sm]
  | succ n ih =>
    have e : ((n + 1 : Nat) : Int) = (n : Int) + 1 := by omega
    simp only [ma_sm, ih]
    rw [e, Int.add_mul, Int.one_mul]
def ma_cl (a s : Int) (n : Nat) : Int := if (n : Int) ≤ a then 0 else if (n : Int) ≤ a + s then n - a else s
theorem ma_sm_in (a s w : Int) (ha : 0 ≤ a) (hs : 0 ≤ s) (n : Nat) : ma_sm (fun i => if a ≤ (i : Int) ∧ (i : Int) < a + s then w else 0) n = ma_cl a s n * w := by
  induction n with
  | zero =>
    have e : ma_cl a s 0 = 0 := by unfold ma_cl; rw [if_pos (by omega)]
    rw [e, Int.zero_mul]
    rfl
  | succ n ih =>
    simp only [ma_sm, ih]
    by_cases h1 : a ≤ (n : Int) ∧ (n : Int) < a + s
    · rw [if_pos h1]
      have e : ma_cl a s (n + 1) = ma_cl a s n + 1 := by unfold ma_cl; (repeat' split) <;> omega
      rw [e, Int.add_mul, Int.one_mul]
    · rw [if_neg h1]
      have e : ma_cl a s (n + 1) = ma_cl a s n := by unfold ma_cl; (repeat' split) <;> omega
      rw [e, Int.add_zero]
theorem ma_cl_s {a s : Int} {n : Nat} (hs : 0 ≤ s) (ha : 0 ≤ a) (h : a + s ≤ (n : Int)) : ma_cl a s n = s := by
  unfold ma_cl; (repeat' split) <;> omega
/-- carpet c, as the row k has it, covers a cell -/
abbrev ma_co (k : Int → Int) (c x y : Int) : Prop := k (9 + c) ≠ -1 ∧ k (9 + c) ≤ x ∧ x < k (9 + c) + k (29 + c) ∧ k (18 + c) ≤ y ∧ y < k (18 + c) + k (29 + c)
def ma_ap (k : Int → Int) (c d : Int) : Prop := k (9 + c) + k (29 + c) ≤ k (9 + d) ∨ k (9 + d) + k (29 + d) ≤ k (9 + c) ∨ k (18 + c) + k (29 + c) ≤ k (18 + d) ∨ k (18 + d) + k (29 + d) ≤ k (18 + c)
def ma_geo (k : Int → Int) : Prop := k 69 ≤ 9 ∧ (∀ c, 0 ≤ c → c < k 69 → k (9 + c) ≠ -1 → 1 ≤ k (29 + c) ∧ 0 ≤ k (9 + c) ∧ 0 ≤ k (18 + c) ∧ k (9 + c) + k (29 + c) ≤ k 67 ∧ k (18 + c) + k (29 + c) ≤ k 68) ∧ ∀ c d, 0 ≤ c → c < k 69 → 0 ≤ d → d < k 69 → c ≠ d → k (9 + c) ≠ -1 → k (9 + d) ≠ -1 → ma_ap k c d
def ma_ss (k : Int → Int) : Nat → Int
  | 0 => 0
  | n + 1 => ma_ss k n + if k (9 + (n : Int)) = -1 then 0 else k (29 + (n : Int)) * k (29 + (n : Int))
def ma_cc (k : Int → Int) (x y : Int) : Nat → Int
  | 0 => 0
  | n + 1 => ma_cc k x y n + if ma_co k (n : Int) x y then 1 else 0
theorem ma_co1 {k : Int → Int} (hg : ma_geo k) {c d x y : Int} (hc0 : 0 ≤ c) (hc : c < k 69) (hd0 : 0 ≤ d) (hd : d < k 69) (h1 : ma_co k c x y) (h2 : ma_co k d x y) : c = d := by
  rcases Int.lt_or_le c d with h | h
  · have := hg.2.2 c d hc0 hc hd0 hd (by omega) h1.1 h2.1
    unfold ma_ap at this
    obtain ⟨-, a1, a2, a3, a4⟩ := h1
    obtain ⟨-, b1, b2, b3, b4⟩ := h2
    omega
  · rcases Int.lt_or_le d c with h' | h'
    · have := hg.2.2 c d hc0 hc hd0 hd (by omega) h1.1 h2.1
      unfold ma_ap at this
      obtain ⟨-, a1, a2, a3, a4⟩ := h1
      obtain ⟨-, b1, b2, b3, b4⟩ := h2
      omega
    · omega
theorem ma_cc_le {k : Int → Int} (hg : ma_geo k) (x y : Int) (n : Nat) (hn : (n : Int) ≤ k 69) : ma_cc k x y n ≤ 1 ∧ (1 ≤ ma_cc k x y n → ∃ c : Nat, c < n ∧ ma_co k (c : Int) x y) := by
  induction n with
  | zero => exact ⟨by simp only [ma_cc]; omega, fun h => by simp only [ma_cc] at h; omega⟩
  | succ n ih =>
    obtain ⟨h1, h2⟩ := ih (by omega)
    simp only [ma_cc]
    by_cases hc : ma_co k (n : Int) x y
    · rw [if_pos hc]
      have h4 : ¬ 1 ≤ ma_cc k x y n := fun q => by
        obtain ⟨c, hc1, hc2⟩ := h2 q
        have := ma_co1 hg (by omega) (by omega) (by omega) (by omega) hc2 hc
        omega
      exact ⟨by omega, fun _ => ⟨n, by omega, hc⟩⟩
    · rw [if_neg hc]
      refine ⟨by omega, fun q => ?_⟩
      obtain ⟨c, hc1, hc2⟩ := h2 (by omega)
      exact ⟨c, by omega, hc2⟩
theorem ma_ar {k : Int → Int} (hg : ma_geo k) {W Z : Nat} (hW : (W : Int) = k 67) (hZ : (Z : Int) = k 68) (n : Nat) (hn : (n : Int) ≤ k 69) : ma_sm (fun y => ma_sm (fun x => ma_cc k (x : Int) (y : Int) n) W) Z = ma_ss k n := by
  induction n with
  | zero =>
    have e : (fun y : Nat => ma_sm (fun x => ma_cc k (x : Int) (y : Int) 0) W) = fun _ => (0 : Int) := by
      funext y
      show ma_sm (fun _ => (0 : Int)) W = 0
      rw [ma_sm_c, Int.mul_zero]
    rw [e, ma_sm_c, Int.mul_zero]
    rfl
  | succ n ih =>
    have e : (fun y : Nat => ma_sm (fun x => ma_cc k (x : Int) (y : Int) (n + 1)) W) = fun y : Nat => ma_sm (fun x => ma_cc k (x : Int) (y : Int) n) W + ma_sm (fun x => if ma_co k (n : Int) (x : Int) (y : Int) then 1 else 0) W := by
      funext y
      rw [← ma_sm_add]
      rfl
    rw [e, ma_sm_add, ih (by omega)]
    simp only [ma_ss]
    congr 1
    by_cases hl : k (9 + (n : Int)) = -1
    · rw [if_pos hl]
      have e2 : (fun y : Nat => ma_sm (fun x : Nat => if ma_co k (n : Int) (x : Int) (y : Int) then (1 : Int) else 0) W) = fun _ => (0 : Int) := by
        funext y
        have e3 : (fun x : Nat => if ma_co k (n : Int) (x : Int) (y : Int) then (1 : Int) else 0) = fun _ => (0 : Int) := by
          funext x
          exact if_neg (fun q => q.1 hl)
        rw [e3, ma_sm_c, Int.mul_zero]
      rw [e2, ma_sm_c, Int.mul_zero]
    · rw [if_neg hl]
      obtain ⟨g1, g2, g3, g4, g5⟩ := hg.2.1 (n : Int) (by omega) (by omega) hl
      have e2 : (fun y : Nat => ma_sm (fun x : Nat => if ma_co k (n : Int) (x : Int) (y : Int) then (1 : Int) else 0) W) = fun y : Nat => if k (18 + (n : Int)) ≤ (y : Int) ∧ (y : Int) < k (18 + (n : Int)) + k (29 + (n : Int)) then k (29 + (n : Int)) else 0 := by
        funext y
        by_cases hy : k (18 + (n : Int)) ≤ (y : Int) ∧ (y : Int) < k (18 + (n : Int)) + k (29 + (n : Int))
        · rw [if_pos hy]
          have e3 : ma_sm (fun x : Nat => if ma_co k (n : Int) (x : Int) (y : Int) then (1 : Int) else 0) W = ma_sm (fun x : Nat => if k (9 + (n : Int)) ≤ (x : Int) ∧ (x : Int) < k (9 + (n : Int)) + k (29 + (n : Int)) then (1 : Int) else 0) W := by
            apply ma_sm_eq
            intro x _
            by_cases hx : k (9 + (n : Int)) ≤ (x : Int) ∧ (x : Int) < k (9 + (n : Int)) + k (29 + (n : Int))
            · rw [if_pos hx, if_pos ⟨hl, hx.1, hx.2, hy.1, hy.2⟩]
            · rw [if_neg hx, if_neg (fun q => hx ⟨q.2.1, q.2.2.1⟩)]
          rw [e3, ma_sm_in _ _ _ g2 (by omega), ma_cl_s (by omega) g2 (by omega), Int.mul_one]
        · rw [if_neg hy]
          have e3 : (fun x : Nat => if ma_co k (n : Int) (x : Int) (y : Int) then (1 : Int) else 0) = fun _ => (0 : Int) := by
            funext x
            exact if_neg (fun q => hy ⟨q.2.2.2.1, q.2.2.2.2⟩)
          rw [e3, ma_sm_c, Int.mul_zero]
      rw [e2, ma_sm_in _ _ _ g3 (by omega), ma_cl_s (by omega) g3 (by omega)]
theorem ma_ss_le {k : Int → Int} (hg : ma_geo k) (h1 : 0 ≤ k 67) (h2 : 0 ≤ k 68) {n : Nat} (hn : (n : Int) ≤ k 69) : ma_ss k n ≤ k 67 * k 68 := by
  have hW : ((k 67).toNat : Int) = k 67 := Int.toNat_of_nonneg h1
  have hZ : ((k 68).toNat : Int) = k 68 := Int.toNat_of_nonneg h2
  rw [← ma_ar hg hW hZ n hn]
  have h3 : ma_sm (fun y => ma_sm (fun x => ma_cc k (x : Int) (y : Int) n) (k 67).toNat) (k 68).toNat ≤ ma_sm (fun _ => k 67) (k 68).toNat := by
    apply ma_sm_le
    intro y _
    have h4 : ma_sm (fun x => ma_cc k (x : Int) (y : Int) n) (k 67).toNat ≤ ma_sm (fun _ => 1) (k 67).toNat := ma_sm_le (fun x _ => (ma_cc_le hg x y n hn).1)
    rw [ma_sm_c, Int.mul_one, hW] at h4
    exact h4
  rw [ma_sm_c, hZ, Int.mul_comm] at h3
  exact h3
/-- a good floor has room for all that lie on it -/
theorem kg_bare {φ : Nat → Int → Int} (g : kgf φ) : 0 ≤ φ 8 0 * φ 9 0 - qs (sqf φ) (φ 7 0).toNat := by
  obtain ⟨⟨b7, b8, b9, bc⟩, gd, gs, gl, -⟩ := g
  obtain ⟨k, k69, k67, k68, kc⟩ : ∃ k : Int → Int, k 69 = φ 7 0 ∧ k 67 = φ 8 0 ∧ k 68 = φ 9 0 ∧ ∀ c, 0 ≤ c → c < 9 → k (9 + c) = φ 3 c ∧ k (18 + c) = φ 4 c ∧ k (29 + c) = φ 0 c := by
    refine ⟨fun z => if z = 69 then φ 7 0 else if z = 67 then φ 8 0 else if z = 68 then φ 9 0 else if z < 18 then φ 3 (z - 9) else if z < 27 then φ 4 (z - 18) else φ 0 (z - 29), rfl, rfl, rfl, fun c c0 c9 => ⟨?_, ?_, ?_⟩⟩
    · dsimp only
      rw [if_neg (by omega), if_neg (by omega), if_neg (by omega), if_pos (by omega)]; congr 1; omega
    · dsimp only
      rw [if_neg (by omega), if_neg (by omega), if_neg (by omega), if_neg (by omega), if_pos (by omega)]; congr 1; omega
    · dsimp only
      rw [if_neg (by omega), if_neg (by omega), if_neg (by omega), if_neg (by omega), if_neg (by omega)]; congr 1; omega
  have geo : ma_geo k := by
    refine ⟨by omega, fun c c0 c1 hx => ?_, fun c d c0 c1 d0 d1 cd hc hd => ?_⟩
    · obtain ⟨e3, e4, e0⟩ := kc c c0 (by omega)
      rw [e3] at hx
      rw [e3, e4, e0, k67, k68]
      have h1 := bc c c0 (by omega)
      have h2 := gs c c0 (by omega)
      have h3 := gl c c0 (by omega) hx
      have h4 := h1.2.resolve_left hx
      exact ⟨h2.1, h4.1, h4.2.2.1, h3.1, h3.2⟩
    · obtain ⟨e3, e4, e0⟩ := kc c c0 (by omega)
      obtain ⟨f3, f4, f0⟩ := kc d d0 (by omega)
      rw [e3] at hc
      rw [f3] at hd
      unfold ma_ap
      rw [e3, e4, e0, f3, f4, f0]
      have h2 := gs c c0 (by omega)
      have h3 := gs d d0 (by omega)
      by_cases q : φ 3 c + φ 0 c ≤ φ 3 d ∨ φ 3 d + φ 0 d ≤ φ 3 c ∨ φ 4 c + φ 0 c ≤ φ 4 d ∨ φ 4 d + φ 0 d ≤ φ 4 c
      · exact q
      · exact absurd (gd c d (max (φ 3 c) (φ 3 d)) (max (φ 4 c) (φ 4 d)) c0 (by omega) d0 (by omega) ⟨hc, by omega, by omega, by omega, by omega⟩ ⟨hd, by omega, by omega, by omega, by omega⟩) cd
  have hs : ∀ n : Nat, (n : Int) ≤ 9 → qs (sqf φ) n = ma_ss k n := by
    intro n
    induction n with
    | zero => intro _; rfl
    | succ n ih =>
      intro hn
      obtain ⟨e3, e4, e0⟩ := kc (n : Int) (by omega) (by omega)
      show qs (sqf φ) n + sqf φ n = ma_ss k n + (if k (9 + (n : Int)) = -1 then 0 else k (29 + (n : Int)) * k (29 + (n : Int)))
      rw [ih (by omega), e3, e0]
      rfl
  rw [hs _ (by omega), ← k67, ← k68]
  have := ma_ss_le geo (by omega) (by omega) (n := (φ 7 0).toNat) (by omega)
  omega
end QAR
section QDF
variable {V V' V1 W W' W1 : dV} {a z y : Int} {A : Nat → Int} {m : Nat}
/-- what a deed may change -/
def DF (A : Nat → Int) (a : Int) (V W V' W' : dV) : Prop := (∀ b m z, ¬ (b = A 4 ∧ (m = 2 ∨ m = 3 ∨ m = 4 ∨ m = 5 ∨ m = 10)) → ¬ (b = A 14 ∧ m ≤ 3) → ¬ (b = A 15 ∧ (m = 0 ∨ m = 4)) → V' b m z = V b m z) ∧ (∀ z, z ≠ 0 → V' (A 4) 5 z = V (A 4) 5 z) ∧ (∀ b m z, ¬ (b = a ∧ (m = 2 ∨ (22 ≤ m ∧ m ≤ 26) ∨ (29 ≤ m ∧ m ≤ 31) ∨ m = 33)) → W' b m z = W b m z) ∧ ∀ z, 29 ≤ z → W' a 2 z = W a 2 z
theorem DF_r : DF A a V W V W := ⟨fun _ _ _ _ _ _ => rfl, fun _ _ => rfl, fun _ _ _ _ => rfl, fun _ _ => rfl⟩
theorem DF_t (h : DF A a V W V' W') (k : DF A a V' W' V1 W1) : DF A a V W V1 W1 := ⟨fun b m z p q r => (k.1 b m z p q r).trans (h.1 b m z p q r), fun z hz => (k.2.1 z hz).trans (h.2.1 z hz), fun b m z p => (k.2.2.1 b m z p).trans (h.2.2.1 b m z p), fun z hz => (k.2.2.2 z hz).trans (h.2.2.2 z hz)⟩
theorem DF_V (h1 : ∀ b m z, ¬ (b = A 4 ∧ (m = 2 ∨ m = 3 ∨ m = 4 ∨ m = 5 ∨ m = 10)) → ¬ (b = A 14 ∧ m ≤ 3) → ¬ (b = A 15 ∧ (m = 0 ∨ m = 4)) → V' b m z = V b m z) (h2 : ∀ z, z ≠ 0 → V' (A 4) 5 z = V (A 4) 5 z) : DF A a V W V' W := ⟨h1, h2, fun _ _ _ _ => rfl, fun _ _ => rfl⟩
theorem DF_W (h3 : ∀ b m z, ¬ (b = a ∧ (m = 2 ∨ (22 ≤ m ∧ m ≤ 26) ∨ (29 ≤ m ∧ m ≤ 31) ∨ m = 33)) → W' b m z = W b m z) (h4 : ∀ z, 29 ≤ z → W' a 2 z = W a 2 z) : DF A a V W V W' := ⟨fun _ _ _ _ _ _ => rfl, fun _ _ => rfl, h3, h4⟩
theorem DF_u (hm : m = 2 ∨ m = 3 ∨ m = 4 ∨ m = 10) : DF A a V W (dv_u V (A 4) m z y) W := DF_V (fun b m' z' p _ _ => by
  by_cases q : b = A 4
  · exact u_j (fun w => p ⟨q, by omega⟩)
  · exact u_b q) (fun z' _ => u_j (by omega))
theorem DF_w (hz : z < 29) : DF A a V W V (dv_u W a 2 z y) := DF_W (fun b m' z' p => by
  by_cases q : b = a
  · exact u_j (fun w => p ⟨q, Or.inl w⟩)
  · exact u_b q) (fun z' h => u_i (by omega))
theorem DF_n (hA : inj A) (h : ∀ b m z, ¬ (b = A 15 ∧ (m = 0 ∨ m = 4)) → V' b m z = V b m z) (k : ∀ b m z, ¬ (b = a ∧ (m = 31 ∨ m = 33)) → W' b m z = W b m z) : DF A a V W V' W' := ⟨fun b m z _ _ p => h b m z p, fun z _ => h _ _ _ (fun q => absurd q.2 (by decide)), fun b m z p => k b m z (fun q => p ⟨q.1, by omega⟩), fun z _ => k _ _ _ (fun q => absurd q.2 (by decide))⟩
end QDF
section QSV
variable {V V' V0 V1 V2 U W W' W0 W1 W2 : dV} {a b c z t k s p x y n i u o : Int} {A : Nat → Int} {K K' : Int → Int} {φ ψ : Nat → Int → Int} {j m : Nat} {fl : Int}
/-- places, piles, PAID and the YEAR have changed, the same in both -/
theorem RR_fl (h : RR A a V W) (f : ∀ b m z, ¬ (b = A 4 ∧ (m = 2 ∨ m = 3 ∨ m = 4 ∨ m = 5 ∨ m = 10)) → V' b m z = V b m z) (f5 : ∀ z, z ≠ 0 → V' (A 4) 5 z = V (A 4) 5 z) (g : ∀ b m z, ¬ (b = a ∧ m = 2) → W' b m z = W b m z) (hK : ∀ z, 29 ≤ z → W' a 2 z = W a 2 z) (h10 : V' (A 4) 10 0 = W' a 2 27) (h50 : V' (A 4) 5 0 = W' a 2 28) (hc : ∀ c, 0 ≤ c → c < 9 → V' (A 4) 2 c = W' a 2 c ∧ V' (A 4) 3 c = W' a 2 (9 + c) ∧ V' (A 4) 4 c = W' a 2 (18 + c)) (hkg : kgf (V' (A 4))) : RR A a V' W' := by
  have hA := h.1
  obtain ⟨kk, e7, e8, e9, e10, e50, e51, e52, ec⟩ := RR_n h
  obtain ⟨-, -, -, -, -, ⟨p1, p2, p3⟩, -⟩ := id h
  have F : ∀ (j : Nat) (z : Int), j ≠ 2 → j ≠ 3 → j ≠ 4 → j ≠ 5 → j ≠ 10 → V' (A 4) j z = V (A 4) j z := fun j z n2 n3 n4 n5 n10 => f _ j z (fun q => by have := q.2; omega)
  have f15 : ∀ m z, V' (A 15) m z = V (A 15) m z := fun m z => f _ m z (fun q => inj_n hA (by decide) (by decide) (by decide) q.1)
  refine RR_act h (cf_b hA (j := 4) (by decide) (fun b m z hb => f b m z (fun q => hb q.1)) (fun _ => rfl)) (wf_b g rfl) (fun z _ => f _ 1 z (fun q => inj_n hA (by decide) (by decide) (by decide) q.1)) (fun z hz => hK z (by omega)) ⟨ef_of ⟨?_, ?_, ?_, h10, h50, ?_, ?_, fun c c0 c9 => ?_⟩, hkg⟩ ⟨by rw [f15, g a 33 0 (fun q => absurd q.2 (by decide))]; exact p1, by rw [g a 33 0 (fun q => absurd q.2 (by decide))]; exact p2, fun u u0 u1 => ?_⟩
  · rw [F 7 0 (by decide) (by decide) (by decide) (by decide) (by decide), hK 69 (by decide), e7]
  · rw [F 8 0 (by decide) (by decide) (by decide) (by decide) (by decide), hK 67 (by decide), e8]
  · rw [F 9 0 (by decide) (by decide) (by decide) (by decide) (by decide), hK 68 (by decide), e9]
  · rw [f5 1 (by decide), hK 65 (by decide), e51]
  · rw [f5 2 (by decide), hK 66 (by decide), e52]
  · obtain ⟨q2, q3, q4⟩ := hc c c0 c9
    obtain ⟨r0, r1, -⟩ := ec c c0 c9
    exact ⟨by rw [F 0 c (by decide) (by decide) (by decide) (by decide) (by decide), hK _ (by omega), r0], by rw [F 1 c (by decide) (by decide) (by decide) (by decide) (by decide), hK _ (by omega), r1], q2, q3, q4⟩
  · rw [g a 33 0 (fun q => absurd q.2 (by decide))] at u1
    rw [show W' a 31 = W a 31 from funext fun z => g a 31 z (fun q => absurd q.2 (by decide)), show V' (A 15) 0 = V (A 15) 0 from funext fun z => f15 0 z]
    exact ⟨(p3 u u0 u1).1, mvf_eq (fun c => ⟨F 0 c (by decide) (by decide) (by decide) (by decide) (by decide), F 1 c (by decide) (by decide) (by decide) (by decide) (by decide), fun hc => f5 c hc⟩) (F 7 0 (by decide) (by decide) (by decide) (by decide) (by decide)) (F 8 0 (by decide) (by decide) (by decide) (by decide) (by decide)) (F 9 0 (by decide) (by decide) (by decide) (by decide) (by decide)) (p3 u u0 u1).2⟩
theorem kg_sub (g : kgf φ) (h0 : ∀ c, 0 ≤ c → c < φ 7 0 → ψ 0 c = φ 0 c ∧ ψ 1 c = φ 1 c ∧ (0 ≤ ψ 2 c ∧ ψ 2 c ≤ 9) ∧ ((ψ 3 c = φ 3 c ∧ ψ 4 c = φ 4 c) ∨ ψ 3 c = -1)) (h7 : ψ 7 0 = φ 7 0) (h8 : ψ 8 0 = φ 8 0) (h9 : ψ 9 0 = φ 9 0) (h10 : 0 ≤ ψ 10 0 ∧ ψ 10 0 ≤ 9999) (h50 : 0 ≤ ψ 5 0 ∧ ψ 5 0 ≤ 999) (h51 : ψ 5 1 = φ 5 1) (h52 : ψ 5 2 = φ 5 2) : kgf ψ := by
  obtain ⟨⟨b7, b8, b9, bc⟩, gd, gs, gl, gw, gp, gy, gm, gz⟩ := g
  have hc : ∀ c px py, 0 ≤ c → c < φ 7 0 → cov ψ c px py → cov φ c px py := fun c px py c0 c1 hv => by
    obtain ⟨e0, -, -, e3⟩ := h0 c c0 c1
    rcases e3 with ⟨e3, e4⟩ | e3
    · unfold cov at hv ⊢
      rw [e0, e3, e4] at hv
      exact hv
    · exact absurd e3 hv.1
  refine ⟨⟨by rw [h7]; exact b7, by rw [h8]; exact b8, by rw [h9]; exact b9, fun c c0 c1 => ?_⟩, fun c d px py c0 c1 d0 d1 kc kd => gd c d px py c0 (by omega) d0 (by omega) (hc c px py c0 (by omega) kc) (hc d px py d0 (by omega) kd), fun c c0 c1 => ?_, fun c c0 c1 hx => ?_, by rw [h8, h9]; exact gw, h10, h50, by rw [h51]; exact gm, by rw [h52]; exact gz⟩
  · obtain ⟨e0, -, -, e3⟩ := h0 c c0 (by omega)
    rw [e0]
    rcases e3 with ⟨e3, e4⟩ | e3
    · rw [e3, e4]; exact bc c c0 (by omega)
    · exact ⟨(bc c c0 (by omega)).1, Or.inl e3⟩
  · obtain ⟨e0, e1, e2, -⟩ := h0 c c0 (by omega)
    have := gs c c0 (by omega)
    rw [e0, e1]; omega
  · obtain ⟨e0, -, -, e3⟩ := h0 c c0 (by omega)
    rcases e3 with ⟨e3, e4⟩ | e3
    · rw [e3] at hx
      rw [e0, e3, e4, h8, h9]; exact gl c c0 (by omega) hx
    · exact absurd e3 hx
theorem kg_mir (g : kgf φ) (h : ∀ j c, j ≠ 3 → ψ j c = φ j c) (h3 : ∀ c, 0 ≤ c → c < φ 7 0 → ψ 3 c = if φ 3 c = -1 then -1 else φ 8 0 - φ 3 c - φ 0 c) : kgf ψ := by
  obtain ⟨⟨b7, b8, b9, bc⟩, gd, gs, gl, gw, gp, gy, gm, gz⟩ := g
  have e := fun j c (n : j ≠ 3) => h j c n
  have hc : ∀ c px py, 0 ≤ c → c < φ 7 0 → cov ψ c px py → cov φ c (φ 8 0 - 1 - px) py := fun c px py c0 c1 hv => by
    unfold cov at hv ⊢
    rw [h3 c c0 c1, e 0 c (by decide), e 4 c (by decide)] at hv
    by_cases q : φ 3 c = -1
    · rw [if_pos q] at hv; exact absurd rfl hv.1
    · rw [if_neg q] at hv
      exact ⟨q, by omega, by omega, by omega, by omega⟩
  refine ⟨⟨by rw [e 7 0 (by decide)]; exact b7, by rw [e 8 0 (by decide)]; exact b8, by rw [e 9 0 (by decide)]; exact b9, fun c c0 c1 => ?_⟩, fun c d px py c0 c1 d0 d1 kc kd => ?_, fun c c0 c1 => ?_, fun c c0 c1 hx => ?_, by rw [e 8 0 (by decide), e 9 0 (by decide)]; exact gw, by rw [e 10 0 (by decide)]; exact gp, by rw [e 5 0 (by decide)]; exact gy, by rw [e 5 1 (by decide)]; exact gm, by rw [e 5 2 (by decide)]; exact gz⟩
  · rw [e 7 0 (by decide)] at c1
    rw [h3 c c0 c1, e 0 c (by decide), e 4 c (by decide)]
    have h1 := bc c c0 c1
    by_cases q : φ 3 c = -1
    · rw [if_pos q]; exact ⟨h1.1, Or.inl rfl⟩
    · rw [if_neg q]
      have h2 := gl c c0 c1 q
      have h4 := h1.2.resolve_left q
      exact ⟨h1.1, Or.inr ⟨by omega, by omega, h4.2.2⟩⟩
  · rw [e 7 0 (by decide)] at c1 d1
    exact gd c d _ py c0 c1 d0 d1 (hc c px py c0 c1 kc) (hc d px py d0 d1 kd)
  · rw [e 7 0 (by decide)] at c1
    rw [e 0 c (by decide), e 1 c (by decide), e 2 c (by decide)]; exact gs c c0 c1
  · rw [e 7 0 (by decide)] at c1
    rw [h3 c c0 c1] at hx
    rw [h3 c c0 c1, e 0 c (by decide), e 4 c (by decide), e 8 0 (by decide), e 9 0 (by decide)]
    by_cases q : φ 3 c = -1
    · rw [if_pos q] at hx; exact absurd rfl hx
    · rw [if_neg q]
      have h2 := gl c c0 c1 q
      have h4 := (bc c c0 c1).2.resolve_left q
      omega
theorem kg_lay (g : kgf φ) (hp : plc φ c x y) (h : ∀ j d, j ≠ 3 → j ≠ 4 → j ≠ 10 → ψ j d = φ j d) (h3 : ∀ d, ψ 3 d = if d = c then x else φ 3 d) (h4 : ∀ d, ψ 4 d = if d = c then y else φ 4 d) (h10 : 0 ≤ ψ 10 0 ∧ ψ 10 0 ≤ 9999) : kgf ψ := by
  obtain ⟨⟨b7, b8, b9, bc⟩, gd, gs, gl, gw, gp, gy, gm, gz⟩ := g
  obtain ⟨⟨c0, c1⟩, ⟨hr, -⟩, ⟨x0, y0⟩, ⟨xw, yh⟩, hov⟩ := hp
  have e := fun j d (n3 : j ≠ 3) (n4 : j ≠ 4) (n10 : j ≠ 10) => h j d n3 n4 n10
  have hcc := bc c c0 c1
  have hsc := gs c c0 c1
  have ho : ∀ d, d ≠ c → ∀ px py, cov ψ d px py → cov φ d px py := fun d hd px py hv => by
    unfold cov at hv ⊢
    rw [h3, h4, if_neg hd, if_neg hd, e 0 d (by decide) (by decide) (by decide)] at hv
    exact hv
  have hn : ∀ px py, cov ψ c px py → (x ≤ px ∧ px < x + φ 0 c) ∧ y ≤ py ∧ py < y + φ 0 c := fun px py hv => by
    unfold cov at hv
    rw [h3, h4, if_pos rfl, if_pos rfl, e 0 c (by decide) (by decide) (by decide)] at hv
    omega
  have hdis : ∀ d px py, 0 ≤ d → d < φ 7 0 → d ≠ c → cov ψ c px py → cov ψ d px py → False := fun d px py d0 d1 dc hvc hvd => by
    have k1 := hn px py hvc
    have k2 := ho d dc px py hvd
    unfold cov at k2
    exact hov d d0 d1 k2.1 ⟨by omega, by omega, by omega, by omega⟩
  refine ⟨⟨by rw [e 7 0 (by decide) (by decide) (by decide)]; exact b7, by rw [e 8 0 (by decide) (by decide) (by decide)]; exact b8, by rw [e 9 0 (by decide) (by decide) (by decide)]; exact b9, fun d d0 d1 => ?_⟩, fun d d' px py d0 d1 d0' d1' kd kd' => ?_, fun d d0 d1 => ?_, fun d d0 d1 hx => ?_, by rw [e 8 0 (by decide) (by decide) (by decide), e 9 0 (by decide) (by decide) (by decide)]; exact gw, h10, by rw [e 5 0 (by decide) (by decide) (by decide)]; exact gy, by rw [e 5 1 (by decide) (by decide) (by decide)]; exact gm, by rw [e 5 2 (by decide) (by decide) (by decide)]; exact gz⟩
  · rw [e 7 0 (by decide) (by decide) (by decide)] at d1
    rw [h3, h4, e 0 d (by decide) (by decide) (by decide)]
    by_cases q : d = c
    · rw [if_pos q, if_pos q, q]; omega
    · rw [if_neg q, if_neg q]; exact bc d d0 d1
  · rw [e 7 0 (by decide) (by decide) (by decide)] at d1 d1'
    by_cases q : d = c
    · by_cases q' : d' = c
      · rw [q, q']
      · rw [q] at kd; exact absurd (hdis d' px py d0' d1' q' kd kd') id
    · by_cases q' : d' = c
      · rw [q'] at kd'; exact absurd (hdis d px py d0 d1 q kd' kd) id
      · exact gd d d' px py d0 d1 d0' d1' (ho d q px py kd) (ho d' q' px py kd')
  · rw [e 7 0 (by decide) (by decide) (by decide)] at d1
    rw [e 0 d (by decide) (by decide) (by decide), e 1 d (by decide) (by decide) (by decide), e 2 d (by decide) (by decide) (by decide)]; exact gs d d0 d1
  · rw [e 7 0 (by decide) (by decide) (by decide)] at d1
    rw [h3] at hx
    rw [h3, h4, e 0 d (by decide) (by decide) (by decide), e 8 0 (by decide) (by decide) (by decide), e 9 0 (by decide) (by decide) (by decide)]
    by_cases q : d = c
    · rw [if_pos q, if_pos q, q]; omega
    · rw [if_neg q] at hx
      rw [if_neg q, if_neg q]; exact gl d d0 d1 hx
/-- the answer of a deed -/
def d_ans (t : Int) : Prop := 0 ≤ t ∨ t = -1 ∨ t = -2 ∨ t = -3
theorem RR_goodOr (h : RR A a V W) (ht : d_ans t) : ∃ V' W', f_X11_answer V (A 0) t = (V', t) ∧ f_X12_goodOr W a t = (W', t) ∧ RR A a V' W' := by
  unfold f_X12_goodOr
  by_cases e : 0 ≤ t
  · obtain ⟨V', W', r1, r2, r3⟩ := RR_good h e
    exact ⟨V', W', r1, by rw [if_pos e, dv_bn2 r2], r3⟩
  · rw [if_neg e]
    rcases ht with q | rfl | rfl | rfl
    · exact absurd q e
    · obtain ⟨V', W', r1, r2, r3⟩ := RR_bad (k := -1) h (Or.inl ⟨rfl, rfl, rfl⟩)
      exact ⟨V', W', r1, by rw [dv_bn2 r2], r3⟩
    · obtain ⟨V', W', r1, r2, r3⟩ := RR_bad (k := -2) h (Or.inr (Or.inl ⟨rfl, rfl, rfl⟩))
      exact ⟨V', W', r1, by rw [dv_bn2 r2], r3⟩
    · obtain ⟨V', W', r1, r2, r3⟩ := RR_bad (k := -3) h (Or.inr (Or.inr (Or.inl ⟨rfl, rfl, rfl⟩)))
      exact ⟨V', W', r1, by rw [dv_bn2 r2], r3⟩
theorem RR_bare (h : RR A a V W) : ∃ t, f_X1_bareCells V (A 4) = (t, ()) ∧ f_X12_bareMany W a = (t, ()) ∧ 0 ≤ t := by
  obtain ⟨kk, e7, e8, e9, -⟩ := RR_n h
  refine ⟨_, q_bareCells kk.1, ?_, kg_bare kk⟩
  have e := h.2.2.1.1.1
  have hq := ef_sqf (φ := V (A 4)) e kk.1
  have k8 : V (A 4) 8 0 = kf (W a 2) 0 8 0 := e.2.2.2.1
  have k9 : V (A 4) 9 0 = kf (W a 2) 0 9 0 := e.2.2.2.2.1
  rw [q_bareMany, hq, k8, k9]
theorem c_rollUp (h : 0 ≤ c ∧ c < V fl 7 0) : f_X1_rollUp V fl c = (dv_u (dv_u V fl 3 c (-1)) fl 4 c (-1), 0) := by
  unfold f_X1_rollUp
  rw [dv_bn2 q_has, if_pos h, if_neg (by decide), bq, bq]
theorem m_rolls : f_X12_rolls W a c = (dv_u (dv_u W a 2 (9 + c) (-1)) a 2 (18 + c) (-1), 0) := by
  unfold f_X12_rolls
  rw [bq, bq, bq, bq]
/-- a carpet is rolled in both -/
theorem RR_roll (h : RR A a V W) (hc : 0 ≤ c ∧ c < V (A 4) 7 0) : RR A a (dv_u (dv_u V (A 4) 3 c (-1)) (A 4) 4 c (-1)) (dv_u (dv_u W a 2 (9 + c) (-1)) a 2 (18 + c) (-1)) := by
  obtain ⟨kk, e7, e8, e9, e10, e50, e51, e52, ec⟩ := RR_n h
  have n9 := kk.1.1
  have fj : ∀ (j : Nat) (z : Int), j ≠ 3 → j ≠ 4 → dv_u (dv_u V (A 4) 3 c (-1)) (A 4) 4 c (-1) (A 4) j z = V (A 4) j z := fun j z n3 n4 => by rw [u_j n4, u_j n3]
  have f3 : ∀ z, dv_u (dv_u V (A 4) 3 c (-1)) (A 4) 4 c (-1) (A 4) 3 z = if z = c then -1 else V (A 4) 3 z := fun z => by rw [u_j (by decide), u_if]
  have f4 : ∀ z, dv_u (dv_u V (A 4) 3 c (-1)) (A 4) 4 c (-1) (A 4) 4 z = if z = c then -1 else V (A 4) 4 z := fun z => by rw [u_if, u_j (by decide)]
  have w2 : ∀ z, dv_u (dv_u W a 2 (9 + c) (-1)) a 2 (18 + c) (-1) a 2 z = if z = 18 + c then -1 else if z = 9 + c then -1 else W a 2 z := fun z => by rw [u_if, u_if]
  have wn : ∀ z, z ≠ 9 + c → z ≠ 18 + c → dv_u (dv_u W a 2 (9 + c) (-1)) a 2 (18 + c) (-1) a 2 z = W a 2 z := fun z n1 n2 => by rw [w2, if_neg n2, if_neg n1]
  refine RR_fl h (fun b m z hb => ?_) (fun z _ => fj 5 z (by decide) (by decide)) (fun b m z hb => ?_) (fun z hz => wn z (by omega) (by omega)) ?_ ?_ (fun d d0 d9 => ⟨?_, ?_, ?_⟩) (kg_sub kk (fun d d0 d1 => ⟨fj 0 d (by decide) (by decide), fj 1 d (by decide) (by decide), ?_, ?_⟩) (fj 7 0 (by decide) (by decide)) (fj 8 0 (by decide) (by decide)) (fj 9 0 (by decide) (by decide)) ?_ ?_ (fj 5 1 (by decide) (by decide)) (fj 5 2 (by decide) (by decide)))
  · by_cases q : b = A 4
    · have q3 : m ≠ 3 := fun e => hb ⟨q, by omega⟩
      have q4 : m ≠ 4 := fun e => hb ⟨q, by omega⟩
      rw [u_j q4, u_j q3]
    · rw [u_b q, u_b q]
  · by_cases q : b = a
    · have q2 : m ≠ 2 := fun e => hb ⟨q, e⟩
      rw [u_j q2, u_j q2]
    · rw [u_b q, u_b q]
  · rw [fj 10 0 (by decide) (by decide), wn 27 (by omega) (by omega), e10]
  · rw [fj 5 0 (by decide) (by decide), wn 28 (by omega) (by omega), e50]
  · rw [fj 2 d (by decide) (by decide), wn d (by omega) (by omega)]; exact (ec d d0 d9).2.2.1
  · rw [f3, w2, if_neg (show ¬ 9 + d = 18 + c by omega)]
    by_cases q : d = c
    · rw [if_pos q, if_pos (by omega)]
    · rw [if_neg q, if_neg (by omega)]; exact (ec d d0 d9).2.2.2.1
  · rw [f4, w2]
    by_cases q : d = c
    · rw [if_pos q, if_pos (by omega)]
    · rw [if_neg q, if_neg (by omega), if_neg (by omega)]; exact (ec d d0 d9).2.2.2.2
  · rw [fj 2 d (by decide) (by decide)]; exact (kk.2.2.1 d d0 d1).2.2.2
  · rw [f3, f4]
    by_cases q : d = c
    · exact Or.inr (by rw [if_pos q])
    · rw [if_neg q, if_neg q]; exact Or.inl ⟨rfl, rfl⟩
  · rw [fj 10 0 (by decide) (by decide)]; exact kk.2.2.2.2.2.1
  · rw [fj 5 0 (by decide) (by decide)]; exact kk.2.2.2.2.2.2.1
theorem D_roll (h : RR A a V W) : ∃ V' W' t, f_X11_doRoll V (A 0) c = (V', t) ∧ f_X12_rollsKept W a c = (W', t) ∧ RR A a V' W' ∧ d_ans t ∧ DF A a V W V' W' := by
  obtain ⟨g0, g1, g10, -⟩ := RR_G h
  obtain ⟨kk, e7, e8, e9, e10, e50, e51, e52, ec⟩ := RR_n h
  have n9 := kk.1.1
  by_cases e : 0 ≤ c ∧ c < V (A 4) 7 0
  case neg =>
    have hV : f_X1_has V (A 4) c = (0, ()) := by rw [q_has, if_neg e]
    have hW : f_X12_isCarpet W a c = (0, ()) := by rw [q_isCarpet, if_neg (by rw [← e7]; exact e)]
    refine ⟨V, W, -2, ?_, ?_, h, Or.inr (Or.inr (Or.inl rfl)), DF_r⟩
    · unfold f_X11_doRoll
      rw [bq, g0, bq, g1, dv_bn2 hV, if_neg (fun q => q rfl)]
    · unfold f_X12_rollsKept
      rw [dv_bn2 hW, if_neg (fun q => q rfl)]
  case pos =>
    have hV : f_X1_has V (A 4) c = (1, ()) := by rw [q_has, if_pos e]
    have hW : f_X12_isCarpet W a c = (1, ()) := by rw [q_isCarpet, if_pos (by rw [← e7]; exact e)]
    have ex := (ec c e.1 (by omega)).2.2.2.1
    by_cases e3 : V (A 4) 3 c = -1
    · have lV : f_X1_isLaid V (A 4) c = (0, ()) := by rw [q_isLaid, if_neg (fun q => q.2.2 e3)]
      have lW : f_X12_isLaid W a c = (0, ()) := by rw [q_mLaid, if_pos (by rw [← ex]; exact e3)]
      refine ⟨V, W, -3, ?_, ?_, h, Or.inr (Or.inr (Or.inr rfl)), DF_r⟩
      · unfold f_X11_doRoll
        rw [bq, g0, bq, g1, dv_bn2 hV, if_pos (by decide), dv_bn2 lV, if_neg (fun q => q rfl)]
      · unfold f_X12_rollsKept
        rw [dv_bn2 hW, if_pos (by decide), dv_bn2 lW, if_neg (fun q => q rfl)]
    · have lV : f_X1_isLaid V (A 4) c = (1, ()) := by rw [q_isLaid, if_pos ⟨e.1, e.2, e3⟩]
      have lW : f_X12_isLaid W a c = (1, ()) := by rw [q_mLaid, if_neg (by rw [← ex]; exact e3)]
      obtain ⟨V1, W1, r1, r2, r3, r4, R⟩ := RR_note (k := 1) h (by decide)
      have v7 : V1 (A 4) 7 0 = V (A 4) 7 0 := r3 _ _ _ (fun q => absurd q.2 (by decide))
      have R2 := RR_roll (c := c) R (by rw [v7]; exact e)
      obtain ⟨t, b1, b2, b3⟩ := RR_bare R2
      refine ⟨_, _, t, ?_, ?_, R2, Or.inl b3, DF_t (DF_n h.1 r3 r4) (DF_t (DF_t (DF_t (DF_u (by decide)) (DF_u (by decide))) (DF_w (by omega))) (DF_w (by omega)))⟩
      · unfold f_X11_doRoll
        rw [bq, g0, bq, g1, dv_bn2 hV, if_pos (by decide), dv_bn2 lV, if_pos (by decide), bq, g10, dv_bn2 r1, dv_bn2 (c_rollUp (by rw [v7]; exact e)), dv_bn2 b1]
      · unfold f_X12_rollsKept
        rw [dv_bn2 hW, if_pos (by decide), dv_bn2 lW, if_pos (by decide), dv_bn2 r2, dv_bn2 m_rolls, dv_bn2 b2]
theorem L_roll (h : RR A a V W) : ∃ V' W' u, f_X11_roll V (A 0) c = (V', u) ∧ f_X12_roll W a c = (W', u) ∧ RR A a V' W' := by
  obtain ⟨V1, W1, t, e1, e2, R, ht, -⟩ := D_roll (c := c) h
  obtain ⟨V2, W2, r1, r2, r3⟩ := RR_goodOr R ht
  exact ⟨V2, W2, t, by unfold f_X11_roll; rw [dv_bn2 e1, dv_bn2 r1], by unfold f_X12_roll; rw [dv_bn2 e2, dv_bn2 r2], r3⟩
end QSV
section QSW
variable {V V' V0 V1 V2 U W W' W0 W1 W2 : dV} {a b c z t k s p x y n u o : Int} {A : Nat → Int} {K K' : Int → Int} {φ ψ : Nat → Int → Int} {j m i : Nat} {fl : Int}
/-- where judging is the same: the law in force, and the floor i -/
def JX (A : Nat → Int) (a : Int) (i : Nat) (V W : dV) : Prop := inj A ∧ G A V ∧ laR A 0 V (W a 2) 0 ∧ rdR A a V W ∧ (ef9 (V (A i)) (kf (W a 2) 0) ∧ kgf (V (A i))) ∧ (i = 4 ∨ i = 7) ∧ 0 ≤ W a 2 27 ∧ W a 2 27 ≤ 9999
theorem RR_JX (h : RR A a V W) : JX A a 4 V W := ⟨h.1, h.2.1, h.2.2.1.2.2, h.2.2.2.2.2.2.2.2.2, ⟨ef_9 h.2.2.1.1.1, h.2.2.1.1.2⟩, Or.inl rfl, by
  obtain ⟨kk, -, -, -, e10, -⟩ := RR_n h
  have := kk.2.2.2.2.2.1
  omega⟩
/-- what judging changes in the reference -/
def jm_fr (a : Int) (W W' : dV) : Prop := ∀ b m z, ¬ (b = a ∧ ((22 ≤ m ∧ m ≤ 26) ∨ m = 29)) → W' b m z = W b m z
theorem jm_t (h : jm_fr a W W') (h1 : jm_fr a W' W1) : jm_fr a W W1 := fun b m z k => (h1 b m z k).trans (h b m z k)
theorem jm_e (h : te_fr a W W') : jm_fr a W W' := fun b m z k => h b m z (fun q => k ⟨q.1, Or.inl q.2⟩)
theorem kj_cf (hA : inj A) (h : kj_fr (A 14) V V') : cf A (fun i m => i == 14 && m ≤ 3) V V' := fun i m z hi hm hL => h.1 _ m z (fun q => by
  have := hA.1 i 14 hi (by decide) q.1
  subst this
  simp at hL; omega)
theorem fl_ef9 {φ φ' ψ : Nat → Int → Int} (h : fl_eq φ φ') (e : ef9 φ ψ) : ef9 φ' ψ := by
  obtain ⟨e1, ⟨e2, e3, e4⟩, e5, e6, e7⟩ := e
  refine ⟨fun c c0 c9 => ?_, ⟨?_, ?_, ?_⟩, ?_, ?_, ?_⟩
  · rw [← h 0 c (by decide) (by decide), ← h 1 c (by decide) (by decide), ← h 2 c (by decide) (by decide), ← h 3 c (by decide) (by decide), ← h 4 c (by decide) (by decide)]; exact e1 c c0 c9
  · rw [← h 5 0 (by decide) (by decide)]; exact e2
  · rw [← h 5 1 (by decide) (by decide)]; exact e3
  · rw [← h 5 2 (by decide) (by decide)]; exact e4
  · rw [← h 7 0 (by decide) (by decide)]; exact e5
  · rw [← h 8 0 (by decide) (by decide)]; exact e6
  · rw [← h 9 0 (by decide) (by decide)]; exact e7
theorem JX_c (h : JX A a i V W) (f : kj_fr (A 14) V V') (g : jm_fr a W W') : JX A a i V' W' := by
  obtain ⟨hA, hG, hl, hr, hf, hi⟩ := h
  have F := kj_cf hA f
  have w2 : ∀ z, W' a 2 z = W a 2 z := fun z => g a 2 z (fun q => absurd q.2 (by omega))
  refine ⟨hA, G_c hG (cf_ag F rfl), laR_c (by decide) hl (cf_ag F rfl) (fun z _ => w2 _), rdR_c hr (fun z => F 10 1 z (by decide) (by decide) rfl) f.2 (fun z => g a 7 z (fun q => absurd q.2 (by omega))) (fun z => g a 17 z (fun q => absurd q.2 (by omega))), ?_, by rw [w2]; exact hi⟩
  rw [show W' a 2 = W a 2 from funext w2]
  have e : fl_eq (V (A i)) (V' (A i)) := fun j c hj _ => by
    rcases hi.1 with rfl | rfl
    · exact (F 4 j c (by decide) (by omega) (by simp)).symm
    · exact (F 7 j c (by decide) (by omega) (by simp)).symm
  exact ⟨fl_ef9 e hf.1, fl_kg e hf.2⟩
/-- judging leaves the relation -/
theorem RR_j (h : RR A a V W) (f : kj_fr (A 14) V V') (g : jm_fr a W W') : RR A a V' W' := by
  have hA := h.1
  have F := kj_cf hA f
  refine RR_idle h (cf_m F (fun i m hL => ?_)) (fun m z hm => g a m z (fun q => ?_)) f.2 (fun m z hm h6 => F 4 m z (by decide) (by omega) (by simp)) (fun z => ⟨F 15 0 z (by decide) (by decide) rfl, F 15 4 z (by decide) (by decide) rfl⟩) (fun z => g a 2 z (fun q => absurd q.2 (by omega))) (fun z => g a 31 z (fun q => absurd q.2 (by omega))) (g a 33 0 (fun q => absurd q.2 (by omega)))
  · by_cases e : i = 14
    · subst e; cases hL
    · simp [e]
  · unfold M_a at hm
    simp only [Bool.or_eq_false_iff, Bool.and_eq_false_iff, beq_eq_false_iff_ne, decide_eq_false_iff_not, ne_eq] at hm
    omega
/-- the law in force, as both have it -/
theorem JX_jd (h : JX A a i V W) : ∃ lx, f_X8_forcedLaw V (A 1) = (lx, ()) ∧ jd_ok V W (A 13) (A 14) (A i) lx a := by
  obtain ⟨hA, ⟨-, g13, -, gk⟩, ⟨l1, l2, l3, l4, l5⟩, ⟨-, -, r3⟩, ⟨hf, hk⟩, hi⟩ := h
  have gx := (gk 0 (by decide)).2
  have l1 : V (A 1) 5 0 = W a 2 71 := by have := l1; rw [Int.zero_add] at this; exact this
  have l3 : V (A 1) 6 0 = W a 2 72 := by have := l3; rw [Int.zero_add] at this; exact this
  have l2 : 0 ≤ V (A 1) 5 0 ∧ V (A 1) 5 0 ≤ 6 := l2
  have l4 : -1 ≤ V (A 1) 6 0 ∧ V (A 1) 6 0 < V (A 1) 5 0 := l4
  have hi38 : i < 38 := by omega
  have hfr : ∀ v, f_X8_lawOf V (A 1) (V (A 1) 6 0) = (v, ()) → f_X8_forcedLaw V (A 1) = (v, ()) := fun v hv => by
    unfold f_X8_forcedLaw
    rw [bq, dv_bn2 hv]
  by_cases e : V (A 1) 6 0 = -1
  · refine ⟨-1, hfr _ (by rw [c_lawOf, if_neg (by omega)]), g13, inj_n hA (by decide) (by decide) (by decide), inj_n hA hi38 (by decide) (by omega), Ne.symm (hA.2 14 (by decide)), Or.inl ⟨by omega, rfl⟩, hf, hk, r3⟩
  · obtain ⟨n, hn⟩ : ∃ n : Nat, (n : Int) = V (A 1) 6 0 := ⟨(V (A 1) 6 0).toNat, by omega⟩
    have hx : V (A 1) 1 (V (A 1) 6 0) = A (20 + n) := by
      have := gx n (by omega)
      rw [hn] at this
      rw [show 20 + 6 * 0 + n = 20 + n by omega] at this
      exact this
    refine ⟨A (20 + n), hfr _ (by rw [c_lawOf, if_pos (by omega), hx]), g13, inj_n hA (by decide) (by decide) (by decide), inj_n hA hi38 (by decide) (by omega), inj_n hA (by omega) (by decide) (by omega), Or.inr ⟨by omega, hA.2 _ (by omega), ?_⟩, hf, hk, r3⟩
    obtain ⟨-, -, t3⟩ := l5 n (by show (n : Int) < V (A 1) 5 0; omega)
    rw [hn, l3, Int.zero_add, show 20 + 6 * 0 + n = 20 + n by omega] at t3
    exact t3
theorem kf_at (e : ef9 φ (kf K 0)) (hk : kgf φ) (h27 : 0 ≤ K 27 ∧ K 27 ≤ 9999) : kgf (kf K 0) := by
  obtain ⟨e1, ⟨e2, e3, e4⟩, e5, e6, e7⟩ := e
  have hk' : kgf (fun j z => if j = 10 then K 27 else φ j z) := by
    obtain ⟨k1, k2, k3, k4, k5, k6, k7, k8, k9⟩ := hk
    exact ⟨k1, k2, k3, k4, k5, h27, k7, k8, k9⟩
  exact kg_9 hk' (fun c c0 c9 => by obtain ⟨q0, q1, q2, q3, q4⟩ := e1 c c0 c9; exact ⟨q0.symm, q1.symm, q2.symm, q3.symm, q4.symm⟩) ⟨e2.symm, e3.symm, e4.symm⟩ e5.symm e6.symm e7.symm (by show K (0 + 27) = K 27; rw [Int.zero_add])
/-- whether a carpet can be LAID, in both -/
theorem q_can (h : JX A a i V W) (c0 : 0 ≤ c) (c1 : c < V (A i) 7 0) (hx : 0 ≤ x ∧ x ≤ 11) (hy : 0 ≤ y ∧ y ≤ 11) : ∃ (V' W' : dV) (u : Int), f_X11_canLie V (A 0) (A i) c x y = (V', u) ∧ f_X12_canLay W a c x y = (W', u) ∧ kj_fr (A 14) V V' ∧ jm_fr a W W' ∧ (u = 1 ∧ plc (V (A i)) c x y ∨ u = 0) := by
  obtain ⟨lx, hlx, hjd⟩ := JX_jd h
  obtain ⟨hA, ⟨⟨g0, -, -, -, -, -, -, -, -, g9, -⟩, -, -, -⟩, -, -, ⟨hf, hk⟩, hi⟩ := id h
  have ek := ef9_n hf
  have hK := kf_at hf hk hi.2
  have hKb := hK.1
  obtain ⟨e7, e8, e9, -, -, -, ec⟩ := ek
  have n9 := hk.1.1
  obtain ⟨-, -, e2, e3, -⟩ := ec c c0 (by omega)
  have kr : kj_fr (A 14) V V := ⟨fun _ _ _ _ => rfl, fun _ _ => rfl⟩
  obtain ⟨r, hr, hr'⟩ := q_hasPlace (c := c) (x := x) (y := y) hk.1 hx.2 hy.2
  -- the class
  have CV : ∀ (V1 : dV) (y1 : Int), f_X2_isBarred V (A 13) lx (A i) c x y = (V1, y1) → f_X11_canLie V (A 0) (A i) c x y = if r = 0 then (V, 0) else if y1 ≠ 0 then (V1, 0) else (V1, 1) := by
    intro V1 y1 hb
    unfold f_X11_canLie
    rw [dv_bn2 hr]
    by_cases q : r = 0
    · rw [if_pos q, if_pos q]
    · rw [if_neg q, if_neg q, bq, g9, bq, g0, dv_bn2 hlx, dv_bn2 hb]
  obtain ⟨V1, W1, y1, b1, b2, b3, b4, b5⟩ := q_bar hjd c0 c1 hx hy
  have eV := CV V1 y1 b1
  by_cases p : plc (V (A i)) c x y
  · have hr1 : r = 1 := by rcases hr' with q | q; exact q.1; exact absurd p q.2
    obtain ⟨-, ⟨pr, pw⟩, -, ⟨px, py⟩, -⟩ := id p
    -- the reference looks at what is covered
    obtain ⟨U, c1', c2, c3⟩ := q_covered (V := W) (a := a) hKb (fun d d0 d1 hd => by
      have h1 := hK.2.2.2.1 d d0 (by simp only [kf, Int.zero_add]; exact d1) (by simp only [kf, Int.zero_add]; exact hd)
      have h2 := hKb.2.1.2
      have h3 := hKb.2.2.1.2
      simp only [kf, Int.zero_add] at h1 h2 h3
      omega) hK.2.1
    have u2 : ∀ z, U a 2 z = W a 2 z := fun z => c2 a 2 z (fun q => absurd q.2 (by decide))
    have hs0 : 0 ≤ W a 2 (29 + c) := by have := (ec c c0 (by omega)).1; rw [← this]; exact (hk.1.2.2.2 c c0 c1).1.1
    obtain ⟨r2, f1, f2, f3⟩ := q_isFree (V := U) (a := a) (s := W a 2 (29 + c)) (x := x) (y := y) (w := W a 2 67) (h := W a 2 68) hs0
    have hfr := q_free_plc (W := U) hK c3 c0 (by rw [← e7]; exact c1) hx.1 hy.1 hx.2 hy.2 (by rw [← e3]; exact pr) (by rw [← e2]; exact pw)
    have r21 : r2 = 1 := f3.mpr (hfr.mpr ((ef9_plc hf (by omega)).mp p))
    have jU : jd_ok V U (A 13) (A 14) (A i) lx a := by
      obtain ⟨q1, q2, q3, q4, q5, q6, q7, q8⟩ := hjd
      have eU : U a 2 = W a 2 := funext u2
      refine ⟨q1, q2, q3, q4, ?_, by rw [eU]; exact q6, q7, q8⟩
      unfold lw_ok
      rw [eU]
      exact q5
    obtain ⟨V2, W2, y2, d1, d2, d3, d4, d5⟩ := q_bar jU c0 c1 hx hy
    have ey : V2 = V1 ∧ y2 = y1 := by
      rw [b1] at d1
      exact ⟨(congrArg Prod.fst d1).symm, (congrArg Prod.snd d1).symm⟩
    have lW : f_X12_isLaid W a c = (0, ()) := by rw [q_mLaid, if_pos (by rw [← e3]; exact pr)]
    have wW : f_X12_isWhole W a c = (1, ()) := by rw [q_mWhole, if_pos (by rw [← e2]; exact pw)]
    have jm : jm_fr a W W2 := jm_t (fun b m z q => c2 b m z (fun w => q ⟨w.1, Or.inr w.2⟩)) (jm_e d4)
    rw [if_neg (by rw [hr1]; decide)] at eV
    have eW : f_X12_canLay W a c x y = if y2 ≠ 0 then (W2, 0) else (W2, 1) := by
      unfold f_X12_canLay
      rw [dv_bn2 lW, if_neg (fun q => q rfl), dv_bn2 wW, if_pos (by decide), dv_bn2 c1', bq, bq, u2, bq, u2, bq, u2, dv_bn2 f1, if_neg (by rw [r21]; decide), dv_bn2 d2]
    by_cases q : y1 ≠ 0
    · rw [if_pos q] at eV
      rw [ey.2, if_pos q] at eW
      exact ⟨V1, W2, 0, eV, eW, b3, jm, Or.inr rfl⟩
    · rw [if_neg q] at eV
      rw [ey.2, if_neg q] at eW
      exact ⟨V1, W2, 1, eV, eW, b3, jm, Or.inl ⟨rfl, p⟩⟩
  · have hr0 : r = 0 := by rcases hr' with q | q; exact absurd q.2 p; exact q.1
    rw [if_pos hr0] at eV
    by_cases l3 : V (A i) 3 c = -1
    · have lW : f_X12_isLaid W a c = (0, ()) := by rw [q_mLaid, if_pos (by rw [← e3]; exact l3)]
      by_cases l2 : 0 < V (A i) 2 c
      · have wW : f_X12_isWhole W a c = (1, ()) := by rw [q_mWhole, if_pos (by rw [← e2]; exact l2)]
        obtain ⟨U, c1', c2, c3⟩ := q_covered (V := W) (a := a) hKb (fun d d0 d1 hd => by
          have h1 := hK.2.2.2.1 d d0 (by simp only [kf, Int.zero_add]; exact d1) (by simp only [kf, Int.zero_add]; exact hd)
          have h2 := hKb.2.1.2
          have h3 := hKb.2.2.1.2
          simp only [kf, Int.zero_add] at h1 h2 h3
          omega) hK.2.1
        have u2 : ∀ z, U a 2 z = W a 2 z := fun z => c2 a 2 z (fun q => absurd q.2 (by decide))
        have hs0 : 0 ≤ W a 2 (29 + c) := by have := (ec c c0 (by omega)).1; rw [← this]; exact (hk.1.2.2.2 c c0 c1).1.1
        obtain ⟨r2, f1, f2, f3⟩ := q_isFree (V := U) (a := a) (s := W a 2 (29 + c)) (x := x) (y := y) (w := W a 2 67) (h := W a 2 68) hs0
        have hfr := q_free_plc (W := U) hK c3 c0 (by rw [← e7]; exact c1) hx.1 hy.1 hx.2 hy.2 (by rw [← e3]; exact l3) (by rw [← e2]; exact l2)
        have r20 : r2 = 0 := by
          rcases f2 with q | q
          · exact absurd ((ef9_plc hf (by omega)).mpr (hfr.mp (f3.mp q))) p
          · exact q
        refine ⟨V, U, 0, eV, ?_, kr, fun b m z q => c2 b m z (fun w => q ⟨w.1, Or.inr w.2⟩), Or.inr rfl⟩
        unfold f_X12_canLay
        rw [dv_bn2 lW, if_neg (fun q => q rfl), dv_bn2 wW, if_pos (by decide), dv_bn2 c1', bq, bq, u2, bq, u2, bq, u2, dv_bn2 f1, if_pos r20]
      · have wW : f_X12_isWhole W a c = (0, ()) := by rw [q_mWhole, if_neg (by rw [← e2]; exact l2)]
        refine ⟨V, W, 0, eV, ?_, kr, fun _ _ _ _ => rfl, Or.inr rfl⟩
        unfold f_X12_canLay
        rw [dv_bn2 lW, if_neg (fun q => q rfl), dv_bn2 wW, if_neg (fun q => q rfl)]
    · have lW : f_X12_isLaid W a c = (1, ()) := by rw [q_mLaid, if_neg (by rw [← e3]; exact l3)]
      refine ⟨V, W, 0, eV, ?_, kr, fun _ _ _ _ => rfl, Or.inr rfl⟩
      unfold f_X12_canLay
      rw [dv_bn2 lW, if_pos (by decide)]
end QSW
section QSX
variable {V V' V0 V1 V2 U W W' W0 W1 W2 : dV} {a b c z t k s p x y n u o : Int} {A : Nat → Int} {K K' : Int → Int} {φ ψ : Nat → Int → Int} {j m i : Nat} {fl : Int}
theorem kj_b (hA : inj A) (f : kj_fr (A 14) V V') {i : Nat} (hi : i < 38) (hn : i ≠ 14) {m : Nat} {z : Int} : V' (A i) m z = V (A i) m z := f.1 _ m z (fun q => inj_n hA hi (by decide) hn q.1)
/-- a carpet is put at its place in both -/
theorem RR_put (h : RR A a V W) (hp : plc (V (A 4)) c x y) (hx : x ≤ 11) (hy : y ≤ 11) (ht : 0 ≤ t ∧ t ≤ 99) : RR A a (dv_u (dv_u (dv_u V (A 4) 3 c x) (A 4) 4 c y) (A 4) 10 0 (min 9999 (dv_add (V (A 4) 10 0) t))) (dv_u (dv_u (dv_u W a 2 (9 + c) x) a 2 (18 + c) y) a 2 27 (min 9999 (dv_add (W a 2 27) t))) := by
  obtain ⟨kk, e7, e8, e9, e10, e50, e51, e52, ec⟩ := RR_n h
  have n9 := kk.1.1
  have hc := hp.1
  have hpd := kk.2.2.2.2.2.1
  have ha : dv_add (V (A 4) 10 0) t = V (A 4) 10 0 + t := dv_add_ok (by omega) (by omega) (by omega) (by omega) (by omega) (by omega)
  have fj : ∀ (j : Nat) (z : Int), j ≠ 3 → j ≠ 4 → j ≠ 10 → dv_u (dv_u (dv_u V (A 4) 3 c x) (A 4) 4 c y) (A 4) 10 0 (min 9999 (dv_add (V (A 4) 10 0) t)) (A 4) j z = V (A 4) j z := fun j z n3 n4 n10 => by rw [u_j n10, u_j n4, u_j n3]
  have f3 : ∀ z, dv_u (dv_u (dv_u V (A 4) 3 c x) (A 4) 4 c y) (A 4) 10 0 (min 9999 (dv_add (V (A 4) 10 0) t)) (A 4) 3 z = if z = c then x else V (A 4) 3 z := fun z => by rw [u_j (by decide), u_j (by decide), u_if]
  have f4 : ∀ z, dv_u (dv_u (dv_u V (A 4) 3 c x) (A 4) 4 c y) (A 4) 10 0 (min 9999 (dv_add (V (A 4) 10 0) t)) (A 4) 4 z = if z = c then y else V (A 4) 4 z := fun z => by rw [u_j (by decide), u_if, u_j (by decide)]
  have f10 : dv_u (dv_u (dv_u V (A 4) 3 c x) (A 4) 4 c y) (A 4) 10 0 (min 9999 (dv_add (V (A 4) 10 0) t)) (A 4) 10 0 = min 9999 (dv_add (V (A 4) 10 0) t) := u_e
  have w2 : ∀ z, dv_u (dv_u (dv_u W a 2 (9 + c) x) a 2 (18 + c) y) a 2 27 (min 9999 (dv_add (W a 2 27) t)) a 2 z = if z = 27 then min 9999 (dv_add (W a 2 27) t) else if z = 18 + c then y else if z = 9 + c then x else W a 2 z := fun z => by rw [u_if, u_if, u_if]
  have wn : ∀ z, z ≠ 27 → z ≠ 9 + c → z ≠ 18 + c → dv_u (dv_u (dv_u W a 2 (9 + c) x) a 2 (18 + c) y) a 2 27 (min 9999 (dv_add (W a 2 27) t)) a 2 z = W a 2 z := fun z n0 n1 n2 => by rw [w2, if_neg n0, if_neg n2, if_neg n1]
  refine RR_fl h (fun b m z hb => ?_) (fun z _ => fj 5 z (by decide) (by decide) (by decide)) (fun b m z hb => ?_) (fun z hz => wn z (by omega) (by omega) (by omega)) ?_ ?_ (fun d d0 d9 => ⟨?_, ?_, ?_⟩) (kg_lay kk hp fj f3 f4 ?_)
  · by_cases q : b = A 4
    · have q3 : m ≠ 3 := fun e => hb ⟨q, by omega⟩
      have q4 : m ≠ 4 := fun e => hb ⟨q, by omega⟩
      have q10 : m ≠ 10 := fun e => hb ⟨q, by omega⟩
      rw [u_j q10, u_j q4, u_j q3]
    · rw [u_b q, u_b q, u_b q]
  · by_cases q : b = a
    · have q2 : m ≠ 2 := fun e => hb ⟨q, e⟩
      rw [u_j q2, u_j q2, u_j q2]
    · rw [u_b q, u_b q, u_b q]
  · rw [f10, w2, if_pos rfl, e10]
  · rw [fj 5 0 (by decide) (by decide) (by decide), wn 28 (by omega) (by omega) (by omega), e50]
  · rw [fj 2 d (by decide) (by decide) (by decide), wn d (by omega) (by omega) (by omega)]; exact (ec d d0 d9).2.2.1
  · rw [f3, w2, if_neg (show ¬ 9 + d = 27 by omega), if_neg (show ¬ 9 + d = 18 + c by omega)]
    by_cases q : d = c
    · rw [if_pos q, if_pos (by omega)]
    · rw [if_neg q, if_neg (by omega)]; exact (ec d d0 d9).2.2.2.1
  · rw [f4, w2, if_neg (show ¬ 18 + d = 27 by omega)]
    by_cases q : d = c
    · rw [if_pos q, if_pos (by omega)]
    · rw [if_neg q, if_neg (by omega), if_neg (by omega)]; exact (ec d d0 d9).2.2.2.2
  · rw [f10, ha]; omega
theorem m_laysAt {W1 : dV} (h : f_X12_costsAt W a c x y = (W1, t)) : f_X12_laysAt W a c x y = (dv_u (dv_u (dv_u W1 a 2 (9 + c) x) a 2 (18 + c) y) a 2 27 (min 9999 (dv_add (dv_u (dv_u W1 a 2 (9 + c) x) a 2 (18 + c) y a 2 27) t)), t) := by
  unfold f_X12_laysAt
  rw [dv_bn2 h, bq, bq, bq, bq, bq, bq, dv_bn2 q_lesser, bq]
theorem DF_j (hA : inj A) (f : kj_fr (A 14) V V') (g : jm_fr a W W') : DF A a V W V' W' := ⟨fun b m z _ p _ => f.1 b m z p, fun z _ => f.1 _ _ _ (fun q => inj_n hA (by decide) (by decide) (by decide) q.1), fun b m z p => g b m z (fun q => p ⟨q.1, by omega⟩), fun z _ => g _ _ _ (fun q => absurd q.2 (by omega))⟩
theorem D_lay (h : RR A a V W) : ∃ V' W' t, f_X11_doLay V (A 0) c x y = (V', t) ∧ f_X12_laysKept W a c x y = (W', t) ∧ RR A a V' W' ∧ d_ans t ∧ DF A a V W V' W' ∧ t ≤ 99 := by
  have hA := h.1
  obtain ⟨g0, g1, g10, -, g9, -⟩ := RR_G h
  obtain ⟨kk, e7, e8, e9, e10, e50, e51, e52, ec⟩ := RR_n h
  have n9 := kk.1.1
  by_cases hxy : (0 ≤ x ∧ x ≤ 11) ∧ 0 ≤ y ∧ y ≤ 11
  case neg =>
    refine ⟨V, W, -1, ?_, ?_, h, Or.inr (Or.inl rfl), DF_r, by decide⟩
    · unfold f_X11_doLay
      rw [bq, g0, bq, g1, dv_bn2 c_onGrid]
      by_cases hx : 0 ≤ x ∧ x ≤ 11
      · rw [if_pos hx, if_neg (by decide), dv_bn2 c_onGrid, if_neg (fun q => hxy ⟨hx, q⟩), if_neg (fun q => q rfl)]
      · rw [if_neg hx, if_pos rfl]
    · unfold f_X12_laysKept
      rw [dv_bn2 q_isAlong]
      by_cases hx : 0 ≤ x ∧ x ≤ 11
      · rw [if_pos hx, if_neg (by decide), dv_bn2 q_isAlong, if_neg (fun q => hxy ⟨hx, q⟩), if_neg (fun q => q rfl)]
      · rw [if_neg hx, if_pos rfl]
  case pos =>
    obtain ⟨hx, hy⟩ := hxy
    have gV : f_X11_onGrid V x = (1, ()) ∧ f_X11_onGrid V y = (1, ()) := ⟨by rw [c_onGrid, if_pos hx], by rw [c_onGrid, if_pos hy]⟩
    have gW : f_X12_isAlong W x = (1, ()) ∧ f_X12_isAlong W y = (1, ()) := ⟨by rw [q_isAlong, if_pos hx], by rw [q_isAlong, if_pos hy]⟩
    by_cases e : 0 ≤ c ∧ c < V (A 4) 7 0
    case neg =>
      have hV : f_X1_has V (A 4) c = (0, ()) := by rw [q_has, if_neg e]
      have hW : f_X12_isCarpet W a c = (0, ()) := by rw [q_isCarpet, if_neg (by rw [← e7]; exact e)]
      refine ⟨V, W, -2, ?_, ?_, h, Or.inr (Or.inr (Or.inl rfl)), DF_r, by decide⟩
      · unfold f_X11_doLay
        rw [bq, g0, bq, g1, dv_bn2 gV.1, if_neg (by decide), dv_bn2 gV.2, if_pos (by decide), dv_bn2 hV, if_neg (fun q => q rfl)]
      · unfold f_X12_laysKept
        rw [dv_bn2 gW.1, if_neg (by decide), dv_bn2 gW.2, if_pos (by decide), dv_bn2 hW, if_neg (fun q => q rfl)]
    case pos =>
      have hV : f_X1_has V (A 4) c = (1, ()) := by rw [q_has, if_pos e]
      have hW : f_X12_isCarpet W a c = (1, ()) := by rw [q_isCarpet, if_pos (by rw [← e7]; exact e)]
      obtain ⟨V1, W1, u, c1, c2, c3, c4, c5⟩ := q_can (RR_JX h) e.1 e.2 hx hy
      have R1 := RR_j h c3 c4
      by_cases eu : u = 1
      case neg =>
        have u0 : u = 0 := by rcases c5 with q | q; exact absurd q.1 eu; exact q
        subst u0
        refine ⟨V1, W1, -3, ?_, ?_, R1, Or.inr (Or.inr (Or.inr rfl)), DF_j hA c3 c4, by decide⟩
        · unfold f_X11_doLay
          rw [bq, g0, bq, g1, dv_bn2 gV.1, if_neg (by decide), dv_bn2 gV.2, if_pos (by decide), dv_bn2 hV, if_pos (by decide), dv_bn2 c1, if_neg (fun q => q rfl)]
        · unfold f_X12_laysKept
          rw [dv_bn2 gW.1, if_neg (by decide), dv_bn2 gW.2, if_pos (by decide), dv_bn2 hW, if_pos (by decide), dv_bn2 c2, if_neg (fun q => q rfl)]
      case pos =>
        subst eu
        have hp : plc (V (A 4)) c x y := by rcases c5 with q | q; exact q.2; exact absurd q (by decide)
        -- what it costs, ahead of the note and behind it
        obtain ⟨lx, hlx, hjd⟩ := JX_jd (RR_JX R1)
        have v1 : ∀ m z, V1 (A 4) m z = V (A 4) m z := fun m z => kj_b hA c3 (by decide) (by decide)
        obtain ⟨V2, W2x, t, d1, d2, d3, d4, d5⟩ := q_cost (c := c) (px := x) (py := y) hjd e.1 (by rw [v1]; exact e.2) hx hy
        have R2 : RR A a V2 W1 := RR_j R1 d3 (fun _ _ _ _ => rfl)
        obtain ⟨V3, W3, n1, n2, n3, n4, R3⟩ := RR_note (k := 0) R2 (by decide)
        -- the reference asks what it costs behind the note
        obtain ⟨lx', hlx', hjd'⟩ := JX_jd (RR_JX (show RR A a V3 W3 from R3))
        have w32 : ∀ z, W3 a 2 z = W1 a 2 z := fun z => n4 a 2 z (fun q => absurd q.2 (by decide))
        obtain ⟨W4, m1, m2⟩ : ∃ W4, f_X12_costsAt W3 a c x y = (W4, t) ∧ te_fr a W3 W4 := by
          have jU : jd_ok V1 W3 (A 13) (A 14) (A 4) lx a := by
            obtain ⟨q1, q2, q3, q4, q5, q6, q7, q8⟩ := hjd
            have eU : W3 a 2 = W1 a 2 := funext w32
            refine ⟨q1, q2, q3, q4, ?_, by rw [eU]; exact q6, q7, q8⟩
            unfold lw_ok
            rw [eU]
            exact q5
          obtain ⟨V2', W4, t', p1, p2, p3, p4, p5⟩ := q_cost (c := c) (px := x) (py := y) jU e.1 (by rw [v1]; exact e.2) hx hy
          have et : t' = t := by
            rw [d1] at p1
            exact (congrArg Prod.snd p1).symm
          rw [et] at p2
          exact ⟨W4, p2, p4⟩
        have R4 : RR A a V3 W4 := RR_j R3 ⟨fun _ _ _ _ => rfl, fun _ _ => rfl⟩ (jm_e m2)
        have v3 : ∀ m z, V3 (A 4) m z = V (A 4) m z := fun m z => by rw [n3 _ m z (fun q => inj_n hA (by decide) (by decide) (by decide) q.1), kj_b hA d3 (by decide) (by decide), v1]
        have hp3 : plc (V3 (A 4)) c x y := by
          rw [show V3 (A 4) = V (A 4) from funext fun m => funext fun z => v3 m z]; exact hp
        have R5 := RR_put R4 hp3 hx.2 hy.2 ⟨d5.1, d5.2⟩
        refine ⟨_, _, t, ?_, ?_, R5, Or.inl d5.1, DF_t (DF_t (DF_t (DF_j hA c3 c4) (DF_j hA d3 (fun _ _ _ _ => rfl))) (DF_n hA n3 n4)) (DF_t (DF_j hA ⟨fun _ _ _ _ => rfl, fun _ _ => rfl⟩ (jm_e m2)) (DF_t (DF_t (DF_t (DF_t (DF_t (DF_u (by decide)) (DF_u (by decide))) (DF_u (by decide))) (DF_w (by omega))) (DF_w (by omega))) (DF_w (by omega)))), d5.2⟩
        · have q9 : V1 (A 0) 9 0 = A 13 := by rw [kj_b hA c3 (by decide) (by decide), g9]
          have q0 : V1 (A 0) 0 0 = A 1 := by rw [kj_b hA c3 (by decide) (by decide), g0]
          have q10 : V2 (A 0) 10 0 = A 15 := by rw [kj_b hA d3 (by decide) (by decide), kj_b hA c3 (by decide) (by decide), g10]
          have q11 : dv_u (dv_u V3 (A 4) 3 c x) (A 4) 4 c y (A 4) 10 0 = V3 (A 4) 10 0 := by rw [u_j (by decide), u_j (by decide)]
          unfold f_X11_doLay
          rw [bq, g0, bq, g1, dv_bn2 gV.1, if_neg (by decide), dv_bn2 gV.2, if_pos (by decide), dv_bn2 hV, if_pos (by decide), dv_bn2 c1, if_pos (by decide), bq, q9, bq, q0, dv_bn2 hlx, dv_bn2 d1, bq, q10, dv_bn2 n1, bq, bq, bq, q11, bq, bq, bq]
        · have q27 : dv_u (dv_u W4 a 2 (9 + c) x) a 2 (18 + c) y a 2 27 = W4 a 2 27 := by
            have := n9
            rw [u_i (by omega), u_i (by omega)]
          unfold f_X12_laysKept
          rw [dv_bn2 gW.1, if_neg (by decide), dv_bn2 gW.2, if_pos (by decide), dv_bn2 hW, if_pos (by decide), dv_bn2 c2, if_pos (by decide), dv_bn2 n2, dv_bn2 (m_laysAt m1), q27]
theorem L_lay (h : RR A a V W) : ∃ V' W' u, f_X11_lay V (A 0) c x y = (V', u) ∧ f_X12_lay W a c x y = (W', u) ∧ RR A a V' W' := by
  obtain ⟨V1, W1, t, e1, e2, R, ht, -⟩ := D_lay (c := c) (x := x) (y := y) h
  obtain ⟨V2, W2, r1, r2, r3⟩ := RR_goodOr R ht
  exact ⟨V2, W2, t, by unfold f_X11_lay; rw [dv_bn2 e1, dv_bn2 r1], by unfold f_X12_lay; rw [dv_bn2 e2, dv_bn2 r2], r3⟩
-- the hall mirrored
theorem c_turn (hk : kgf (V fl)) : ∃ V' : dV, f_X1_turnOver V fl = (V', qs (fun i => if V fl 3 (i : Int) ≠ -1 then 1 else 0) (V fl 7 0).toNat) ∧ (∀ b m z, ¬ (b = fl ∧ m = 3) → V' b m z = V b m z) ∧ ∀ z, V' fl 3 z = if (0 ≤ z ∧ z < V fl 7 0) ∧ V fl 3 z ≠ -1 then V fl 8 0 - V fl 3 z - V fl 0 z else V fl 3 z := by
  have n9 := hk.1.1
  unfold f_X1_turnOver
  refine dv_inv (P := fun q => ∃ (U : dV) (j : Nat), q = (U, fl, qs (fun i => if V fl 3 (i : Int) ≠ -1 then 1 else 0) j, (j : Int)) ∧ (j : Int) ≤ V fl 7 0 ∧ (∀ b m z, ¬ (b = fl ∧ m = 3) → U b m z = V b m z) ∧ ∀ z, U fl 3 z = if (0 ≤ z ∧ z < (j : Int)) ∧ V fl 3 z ≠ -1 then V fl 8 0 - V fl 3 z - V fl 0 z else V fl 3 z) (Q := fun q => ∃ V' : dV, q = (V', qs (fun i => if V fl 3 (i : Int) ≠ -1 then 1 else 0) (V fl 7 0).toNat) ∧ (∀ b m z, ¬ (b = fl ∧ m = 3) → V' b m z = V b m z) ∧ ∀ z, V' fl 3 z = if (0 ≤ z ∧ z < V fl 7 0) ∧ V fl 3 z ≠ -1 then V fl 8 0 - V fl 3 z - V fl 0 z else V fl 3 z) (m := fun q => (V fl 7 0 - q.2.2.2).toNat) ?_ _ ⟨V, 0, rfl, by omega, fun _ _ _ _ => rfl, fun z => by rw [if_neg (by omega)]⟩
  rintro q ⟨U, j, rfl, j1, hf, hz⟩
  have uj : ∀ (m : Nat) (z : Int), m ≠ 3 → U fl m z = V fl m z := fun m z hm => hf fl m z (fun q => hm q.2)
  have u3 : U fl 3 (j : Int) = V fl 3 (j : Int) := by rw [hz, if_neg (by omega)]
  rw [f_X1_turnOver_4e]
  unfold f_X1_turnOver_4c f_X1_turnOver_47
  rw [bq, uj 7 0 (by decide)]
  by_cases e : V fl 7 0 ≤ (j : Int)
  · rw [if_pos e]
    have ej : (V fl 7 0).toNat = j := by omega
    refine Or.inr ⟨_, rfl, U, by rw [ej], hf, fun z => ?_⟩
    rw [hz, show V fl 7 0 = (j : Int) by omega]
  · rw [if_neg e]
    have hb := qs_b (f := fun i : Nat => if V fl 3 (i : Int) ≠ -1 then (1 : Int) else 0) (n := j) (k := 1) (fun i _ => by split <;> omega)
    by_cases e3 : V fl 3 (j : Int) = -1
    · have lV : f_X1_isLaid U fl (j : Int) = (0, ()) := by rw [q_isLaid, if_neg (fun q => q.2.2 (by rw [u3]; exact e3))]
      rw [dv_bn2 lV, if_pos rfl, bq]
      refine Or.inl ⟨_, rfl, ⟨U, j + 1, ?_, by omega, hf, fun z => ?_⟩, by dsimp only; omega⟩
      · show _ = (U, fl, qs (fun i => if V fl 3 (i : Int) ≠ -1 then 1 else 0) j + (if V fl 3 (j : Int) ≠ -1 then 1 else 0), ((j + 1 : Nat) : Int))
        rw [if_neg (fun q => q e3), Int.add_zero]; rfl
      · rw [hz]
        by_cases q : (0 ≤ z ∧ z < (j : Int)) ∧ V fl 3 z ≠ -1
        · rw [if_pos q, if_pos ⟨by omega, q.2⟩]
        · rw [if_neg q]
          by_cases q1 : (0 ≤ z ∧ z < ((j + 1 : Nat) : Int)) ∧ V fl 3 z ≠ -1
          · have : z = (j : Int) := by
              by_cases q2 : z < (j : Int)
              · exact absurd ⟨⟨q1.1.1, q2⟩, q1.2⟩ q
              · omega
            rw [this] at q1
            exact absurd e3 q1.2
          · rw [if_neg q1]
    · have lV : f_X1_isLaid U fl (j : Int) = (1, ()) := by rw [q_isLaid, if_pos ⟨by omega, by rw [uj 7 0 (by decide)]; omega, by rw [u3]; exact e3⟩]
      have hc := (hk.1.2.2.2 (j : Int) (by omega) (by omega))
      have hp := hc.2.resolve_left e3
      have hw := hk.1.2.1
      have s1 : dv_sub (V fl 8 0) (V fl 3 (j : Int)) = V fl 8 0 - V fl 3 (j : Int) := dv_sub_ok (by omega) (by omega) (by omega) (by omega) (by omega) (by omega)
      rw [dv_bn2 lV, if_neg (by decide), bq, bq, uj 8 0 (by decide), u3, bq, bq, uj 0 _ (by decide), s1, bq, dv_sub_ok (by omega) (by omega) (by omega) (by omega) (by omega) (by omega), bq, bq, dv_add_ok (by omega) (by omega) (by omega) (by omega) (by omega) (by omega), bq]
      refine Or.inl ⟨_, rfl, ⟨dv_u U fl 3 (j : Int) (V fl 8 0 - V fl 3 (j : Int) - V fl 0 (j : Int)), j + 1, ?_, by omega, fun b m z h => ?_, fun z => ?_⟩, by dsimp only; omega⟩
      · show _ = (_, fl, qs (fun i => if V fl 3 (i : Int) ≠ -1 then 1 else 0) j + (if V fl 3 (j : Int) ≠ -1 then 1 else 0), ((j + 1 : Nat) : Int))
        rw [if_pos e3]; rfl
      · by_cases q : b = fl
        · rw [u_j (fun w => h ⟨q, w⟩)]; exact hf b m z h
        · rw [u_b q]; exact hf b m z h
      · rw [u_if]
        by_cases q : z = (j : Int)
        · rw [if_pos q, if_pos ⟨by omega, by rw [q]; exact e3⟩, q]
        · rw [if_neg q, hz]
          by_cases q1 : (0 ≤ z ∧ z < (j : Int)) ∧ V fl 3 z ≠ -1
          · rw [if_pos q1, if_pos ⟨by omega, q1.2⟩]
          · rw [if_neg q1, if_neg (fun w => q1 ⟨by omega, w.2⟩)]
theorem m_turn (hn : 0 ≤ W a 2 69 ∧ W a 2 69 ≤ 9) : ∃ W' : dV, (∀ v, f_X12_laidMany W' a = (v, ()) → dv_lp f_X12_mirrorsKept_7b (W, a, 0) = (W', v)) ∧ (∀ b m z, ¬ (b = a ∧ m = 2) → W' b m z = W b m z) ∧ ∀ z, W' a 2 z = if 9 ≤ z ∧ z < 9 + W a 2 69 then (if W a 2 z = -1 then -1 else W a 2 67 - W a 2 z - W a 2 (z + 20)) else W a 2 z := by
  have L : ∃ (W' : dV), dv_lp f_X12_mirrorsKept_7b (W, a, 0) = (W', (f_X12_laidMany W' a).1) ∧ (∀ b m z, ¬ (b = a ∧ m = 2) → W' b m z = W b m z) ∧ ∀ z, W' a 2 z = if 9 ≤ z ∧ z < 9 + W a 2 69 then (if W a 2 z = -1 then -1 else W a 2 67 - W a 2 z - W a 2 (z + 20)) else W a 2 z := by
    refine dv_inv (P := fun q => ∃ (U : dV) (j : Int), q = (U, a, j) ∧ 0 ≤ j ∧ j ≤ W a 2 69 ∧ (∀ b m z, ¬ (b = a ∧ m = 2) → U b m z = W b m z) ∧ ∀ z, U a 2 z = if 9 ≤ z ∧ z < 9 + j then (if W a 2 z = -1 then -1 else W a 2 67 - W a 2 z - W a 2 (z + 20)) else W a 2 z) (Q := fun q => ∃ W' : dV, q = (W', (f_X12_laidMany W' a).1) ∧ (∀ b m z, ¬ (b = a ∧ m = 2) → W' b m z = W b m z) ∧ ∀ z, W' a 2 z = if 9 ≤ z ∧ z < 9 + W a 2 69 then (if W a 2 z = -1 then -1 else W a 2 67 - W a 2 z - W a 2 (z + 20)) else W a 2 z) (m := fun q => (W a 2 69 - q.2.2).toNat) ?_ _ ⟨W, 0, rfl, by omega, hn.1, fun _ _ _ _ => rfl, fun z => by rw [if_neg (by omega)]⟩
    rintro q ⟨U, j, rfl, j0, j1, hf, hz⟩
    have u69 : U a 2 69 = W a 2 69 := by rw [hz, if_neg (by omega)]
    rw [f_X12_mirrorsKept_7e]
    unfold f_X12_mirrorsKept_7c
    rw [dv_bn2 q_many, u69]
    by_cases e : W a 2 69 ≤ j
    · rw [if_pos e, bq2]
      refine Or.inr ⟨_, rfl, U, rfl, hf, fun z => ?_⟩
      rw [hz, show W a 2 69 = j by omega]
    · rw [if_neg e, bq]
      have u9 : U a 2 (9 + j) = W a 2 (9 + j) := by rw [hz, if_neg (by omega)]
      have st : ∀ v, v = (if W a 2 (9 + j) = -1 then -1 else W a 2 67 - W a 2 (9 + j) - W a 2 (9 + j + 20)) → (∃ t : dV × Int × Int, (Sum.inl (dv_u U a 2 (9 + j) v, a, j + 1) : Sum (dV × Int × Int) dR) = Sum.inl t ∧ (∃ (U : dV) (j : Int), t = (U, a, j) ∧ 0 ≤ j ∧ j ≤ W a 2 69 ∧ (∀ b m z, ¬ (b = a ∧ m = 2) → U b m z = W b m z) ∧ ∀ z, U a 2 z = if 9 ≤ z ∧ z < 9 + j then (if W a 2 z = -1 then -1 else W a 2 67 - W a 2 z - W a 2 (z + 20)) else W a 2 z) ∧ (W a 2 69 - t.2.2).toNat < (W a 2 69 - j).toNat) := by
        intro v hv
        refine ⟨_, rfl, ⟨_, j + 1, rfl, by omega, by omega, fun b m z h => ?_, fun z => ?_⟩, by dsimp only; omega⟩
        · by_cases q : b = a
          · rw [u_j (fun w => h ⟨q, w⟩)]; exact hf b m z h
          · rw [u_b q]; exact hf b m z h
        · rw [u_if]
          by_cases q : z = 9 + j
          · rw [if_pos q, if_pos (by omega), q]; exact hv
          · rw [if_neg q, hz]
            by_cases q1 : 9 ≤ z ∧ z < 9 + j
            · rw [if_pos q1, if_pos (show 9 ≤ z ∧ z < 9 + (j + 1) by omega)]
            · rw [if_neg q1, if_neg (show ¬ (9 ≤ z ∧ z < 9 + (j + 1)) by omega)]
      by_cases e3 : W a 2 (9 + j) = -1
      · have lW : f_X12_isLaid U a j = (0, ()) := by rw [q_mLaid, if_pos (by rw [u9]; exact e3)]
        rw [dv_bn2 lW, if_pos rfl, bq, bq]
        exact Or.inl (st (-1) (by rw [if_pos e3]))
      · have lW : f_X12_isLaid U a j = (1, ()) := by rw [q_mLaid, if_neg (by rw [u9]; exact e3)]
        rw [dv_bn2 lW, if_neg (by decide), bq, bq, bq, bq, bq, bq, bq, bq, bq, u9]
        refine Or.inl (st _ ?_)
        rw [if_neg e3, hz 67, if_neg (by omega), hz (29 + j), if_neg (by omega), show 9 + j + 20 = 29 + j by omega]
  obtain ⟨W', l1, l2, l3⟩ := L
  exact ⟨W', fun v hv => by rw [l1, hv], l2, l3⟩
theorem D_mirror (h : RR A a V W) : ∃ V' W' t, f_X11_doMirror V (A 0) = (V', t) ∧ f_X12_mirrorsKept W a = (W', t) ∧ RR A a V' W' ∧ d_ans t ∧ DF A a V W V' W' := by
  have hA := h.1
  obtain ⟨g0, g1, g10, -⟩ := RR_G h
  obtain ⟨V1, W1, r1, r2, r3, r4, R⟩ := RR_note (k := 2) h (by decide)
  obtain ⟨kk, e7, e8, e9, e10, e50, e51, e52, ec⟩ := RR_n R
  have n9 := kk.1.1
  obtain ⟨V2, c1, c2, c3⟩ := c_turn (V := V1) (fl := A 4) kk
  obtain ⟨W2, m1, m2, m3⟩ := m_turn (W := W1) (a := a) (by omega)
  have fj : ∀ (j : Nat) (z : Int), j ≠ 3 → V2 (A 4) j z = V1 (A 4) j z := fun j z hj => c2 _ j z (fun q => hj q.2)
  have f3 : ∀ d, 0 ≤ d → d < V1 (A 4) 7 0 → V2 (A 4) 3 d = if V1 (A 4) 3 d = -1 then -1 else V1 (A 4) 8 0 - V1 (A 4) 3 d - V1 (A 4) 0 d := fun d d0 d1 => by
    rw [c3]
    by_cases q : V1 (A 4) 3 d = -1
    · rw [if_neg (fun w => w.2 q), if_pos q, q]
    · rw [if_pos ⟨⟨d0, d1⟩, q⟩, if_neg q]
  have kg2 : kgf (V2 (A 4)) := kg_mir kk fj f3
  have wn : ∀ z, ¬ (9 ≤ z ∧ z < 9 + W1 a 2 69) → W2 a 2 z = W1 a 2 z := fun z hz => by rw [m3, if_neg hz]
  have R2 : RR A a V2 W2 := by
    refine RR_fl R (fun b m z hb => c2 b m z (fun q => hb ⟨q.1, by omega⟩)) (fun z _ => fj 5 z (by decide)) m2 (fun z hz => wn z (by omega)) ?_ ?_ (fun d d0 d9 => ⟨?_, ?_, ?_⟩) kg2
    · rw [fj 10 0 (by decide), wn 27 (by omega), e10]
    · rw [fj 5 0 (by decide), wn 28 (by omega), e50]
    · rw [fj 2 d (by decide), wn d (by omega)]; exact (ec d d0 d9).2.2.1
    · obtain ⟨q0, -, -, q3, -⟩ := ec d d0 d9
      rw [m3]
      by_cases q : d < V1 (A 4) 7 0
      · rw [f3 d d0 q, if_pos (show 9 ≤ 9 + d ∧ 9 + d < 9 + W1 a 2 69 by omega), ← q3, ← e8, show 9 + d + 20 = 29 + d by omega, ← q0]
      · rw [c3, if_neg (fun w => q w.1.2), if_neg (by omega), q3]
    · rw [fj 4 d (by decide), wn (18 + d) (by omega)]; exact (ec d d0 d9).2.2.2.2
  -- how many are laid
  have hcnt : f_X12_laidMany W2 a = (qs (fun i => if V1 (A 4) 3 (i : Int) ≠ -1 then 1 else 0) (V1 (A 4) 7 0).toNat, ()) := by
    have q := ef_laid (φ := V2 (A 4)) R2.2.2.1.1.1 kg2.1
    rw [q_laidMany2, ← q, fj 7 0 (by decide)]
    congr 1
    refine qs_c fun i hi => ?_
    rw [f3 (i : Int) (by omega) (by omega)]
    by_cases q1 : V1 (A 4) 3 (i : Int) = -1
    · rw [if_pos q1, if_neg (fun w => w rfl), if_neg (fun w => w q1)]
    · have := kk.2.2.2.1 (i : Int) (by omega) (by omega) q1
      have hp := (kk.1.2.2.2 (i : Int) (by omega) (by omega)).2.resolve_left q1
      rw [if_neg q1, if_pos (by omega), if_pos q1]
  have hb := qs_b (f := fun i : Nat => if V1 (A 4) 3 (i : Int) ≠ -1 then (1 : Int) else 0) (n := (V1 (A 4) 7 0).toNat) (k := 1) (fun i _ => by split <;> omega)
  refine ⟨V2, W2, _, ?_, ?_, R2, Or.inl hb.1, DF_t (DF_n hA r3 r4) (DF_t (DF_V (fun b m z p _ _ => c2 b m z (fun q => p ⟨q.1, by omega⟩)) (fun z _ => fj 5 z (by decide))) (DF_W (fun b m z p => m2 b m z (fun q => p ⟨q.1, Or.inl q.2⟩)) (fun z hz => wn z (by omega))))⟩
  · have q0 : V1 (A 0) 0 0 = A 1 := by rw [r3 _ _ _ (fun q => inj_n hA (by decide) (by decide) (by decide) q.1), g0]
    have q1 : V1 (A 1) 0 0 = A 4 := by rw [r3 _ _ _ (fun q => inj_n hA (by decide) (by decide) (by decide) q.1), g1]
    unfold f_X11_doMirror
    rw [bq, g10, bq, g0, bq, g1, dv_bn2 r1, bq, q0, bq, q1, dv_bn2 c1]
  · unfold f_X12_mirrorsKept
    rw [dv_bn2 r2]
    exact m1 _ hcnt
theorem L_mirror (h : RR A a V W) : ∃ V' W' u, f_X11_mirror V (A 0) = (V', u) ∧ f_X12_mirror W a = (W', u) ∧ RR A a V' W' := by
  obtain ⟨V1, W1, t, e1, e2, R, ht, -⟩ := D_mirror h
  obtain ⟨V2, W2, r1, r2, r3⟩ := RR_goodOr R ht
  exact ⟨V2, W2, t, by unfold f_X11_mirror; rw [dv_bn2 e1, dv_bn2 r1], by unfold f_X12_mirror; rw [dv_bn2 e2, dv_bn2 r2], r3⟩
end QSX
section QSY
variable {V V' V0 V1 V2 U W W' W0 W1 W2 : dV} {a b c z t k s p x y n u o : Int} {A : Nat → Int} {K K' : Int → Int} {φ ψ : Nat → Int → Int} {j m i : Nat} {fl pa : Int}
theorem c_back (hf : fl ≠ pa) (hn : 0 < V pa 4 0) : ∃ V' : dV, f_X4_takeBack V pa fl = (V', V pa 0 (30 * (V pa 4 0 - 1))) ∧ (∀ b m z, ¬ (b = pa ∧ m = 4) → ¬ (b = fl ∧ (m = 2 ∨ m = 3 ∨ m = 4 ∨ m = 5 ∨ m = 10)) → V' b m z = V b m z) ∧ V' pa 4 0 = V pa 4 0 - 1 ∧ V' fl 10 0 = V pa 0 (30 * (V pa 4 0 - 1) + 1) ∧ V' fl 5 0 = V pa 0 (30 * (V pa 4 0 - 1) + 2) ∧ (∀ z, z ≠ 0 → V' fl 5 z = V fl 5 z) ∧ ∀ c, 0 ≤ c → c < 9 → V' fl 3 c = V pa 0 (30 * (V pa 4 0 - 1) + (3 + c)) ∧ V' fl 4 c = V pa 0 (30 * (V pa 4 0 - 1) + (12 + c)) ∧ V' fl 2 c = V pa 0 (30 * (V pa 4 0 - 1) + (21 + c)) := by
  obtain ⟨B, hB⟩ : ∃ B, B = (V pa 4 0 - 1) * 30 := ⟨_, rfl⟩
  have hB' : 30 * (V pa 4 0 - 1) = B := by omega
  rw [hB']
  have pf : ∀ (X : dV) (j' : Nat) (i v : Int) (m' : Nat) (z : Int), dv_u X fl j' i v pa m' z = X pa m' z := fun X j' i v m' z => u_b (Ne.symm hf)
  have pc : ∀ (X : dV) (ja jb : Nat) (sp dp n : Int) (m' : Nat) (z : Int), dv_c X pa ja sp fl jb dp n pa m' z = X pa m' z := fun X ja jb sp dp n m' z => cp_b (Ne.symm hf)
  have e4 : dv_u V pa 4 0 (V pa 4 0 - 1) pa 4 0 = V pa 4 0 - 1 := u_e
  have e0 : ∀ z, dv_u V pa 4 0 (V pa 4 0 - 1) pa 0 z = V pa 0 z := fun z => u_j (by decide)
  have eb : ∀ b m z, ¬ (b = pa ∧ m = 4) → dv_u V pa 4 0 (V pa 4 0 - 1) b m z = V b m z := fun b m z h => by
    by_cases q : b = pa
    · exact u_j (fun w => h ⟨q, w⟩)
    · exact u_b q
  have eV : f_X4_takeBack V pa fl = (dv_c (dv_c (dv_c (dv_u (dv_u (dv_u V pa 4 0 (V pa 4 0 - 1)) fl 10 0 (V pa 0 (B + 1))) fl 5 0 (V pa 0 (B + 2))) pa 0 (B + 3) fl 3 0 9) pa 0 (B + 3 + 9) fl 4 0 9) pa 0 (B + 3 + 18) fl 2 0 9, V pa 0 B) := by
    unfold f_X4_takeBack
    rw [bq, if_pos hn]
    simp only [bq, e4, pf, pc, e0, ← hB]
  refine ⟨_, eV, fun b m z h1 h2 => ?_, ?_, ?_, ?_, fun z hz => ?_, fun c c0 c9 => ⟨?_, ?_, ?_⟩⟩
  · by_cases q : b = fl
    · have q2 : m ≠ 2 := fun w => h2 ⟨q, by omega⟩
      have q3 : m ≠ 3 := fun w => h2 ⟨q, by omega⟩
      have q4 : m ≠ 4 := fun w => h2 ⟨q, by omega⟩
      have q5 : m ≠ 5 := fun w => h2 ⟨q, by omega⟩
      have q10 : m ≠ 10 := fun w => h2 ⟨q, by omega⟩
      rw [cp_j q2, cp_j q4, cp_j q3, u_j q5, u_j q10]; exact eb b m z h1
    · rw [cp_b q, cp_b q, cp_b q, u_b q, u_b q]; exact eb b m z h1
  · rw [pc, pc, pc, pf, pf, u_e]
  · rw [cp_j (by decide), cp_j (by decide), cp_j (by decide), u_j (by decide), u_e]
  · rw [cp_j (by decide), cp_j (by decide), cp_j (by decide), u_e]
  · rw [cp_j (by decide), cp_j (by decide), cp_j (by decide), u_i hz, u_j (by decide)]; exact eb fl 5 z (fun q => hf q.1)
  · rw [cp_j (by decide), cp_j (by decide), cp_in (by omega), pf, pf, e0]; congr 1; omega
  · rw [cp_j (by decide), cp_in (by omega), pc, pf, pf, e0]; congr 1; omega
  · rw [cp_in (by omega), pc, pc, pf, pf, e0]; congr 1; omega
theorem m_undo (hn : W a 33 0 ≠ 0) : ∃ W' : dV, (∀ Z, f_X12_good W' a (W a 31 (30 * (W a 33 0 - 1) + 29)) = Z → f_X12_undo W a = Z) ∧ (∀ b m z, ¬ (b = a ∧ (m = 2 ∨ m = 33)) → W' b m z = W b m z) ∧ W' a 33 0 = W a 33 0 - 1 ∧ ∀ z, W' a 2 z = if 0 ≤ z ∧ z < 29 then W a 31 (30 * (W a 33 0 - 1) + z) else W a 2 z := by
  have L : ∃ (W' : dV), dv_lp f_X12_undo_34b (dv_u W a 33 0 (W a 33 0 - 1), 30 * (W a 33 0 - 1), a, 0) = f_X12_good W' a (W a 31 (30 * (W a 33 0 - 1) + 29)) ∧ (∀ b m z, ¬ (b = a ∧ (m = 2 ∨ m = 33)) → W' b m z = W b m z) ∧ W' a 33 0 = W a 33 0 - 1 ∧ ∀ z, W' a 2 z = if 0 ≤ z ∧ z < 29 then W a 31 (30 * (W a 33 0 - 1) + z) else W a 2 z := by
    refine dv_inv (P := fun q => ∃ (U : dV) (j : Int), q = (U, 30 * (W a 33 0 - 1), a, j) ∧ 0 ≤ j ∧ j ≤ 29 ∧ (∀ b m z, ¬ (b = a ∧ (m = 2 ∨ m = 33)) → U b m z = W b m z) ∧ U a 33 0 = W a 33 0 - 1 ∧ ∀ z, U a 2 z = if 0 ≤ z ∧ z < j then W a 31 (30 * (W a 33 0 - 1) + z) else W a 2 z) (Q := fun q => ∃ W' : dV, q = f_X12_good W' a (W a 31 (30 * (W a 33 0 - 1) + 29)) ∧ (∀ b m z, ¬ (b = a ∧ (m = 2 ∨ m = 33)) → W' b m z = W b m z) ∧ W' a 33 0 = W a 33 0 - 1 ∧ ∀ z, W' a 2 z = if 0 ≤ z ∧ z < 29 then W a 31 (30 * (W a 33 0 - 1) + z) else W a 2 z) (m := fun q => (29 - q.2.2.2).toNat) ?_ _ ⟨_, 0, rfl, by omega, by omega, fun b m z h => ?_, u_e, fun z => by rw [if_neg (by omega), u_j (by decide)]⟩
    · rintro q ⟨U, j, rfl, j0, j1, hf, h33, hz⟩
      have u31 : ∀ z, U a 31 z = W a 31 z := fun z => hf a 31 z (fun q => absurd q.2 (by decide))
      rw [f_X12_undo_34e]
      unfold f_X12_undo_34c
      by_cases e : 29 ≤ j
      · rw [if_pos e, bq, bq, u31, bq2]
        refine Or.inr ⟨_, rfl, U, rfl, hf, h33, fun z => ?_⟩
        rw [hz, show j = 29 by omega]
      · rw [if_neg e, bq, bq, u31, bq, bq]
        refine Or.inl ⟨_, rfl, ⟨_, j + 1, rfl, by omega, by omega, fun b m z h => ?_, by rw [u_j (by decide), h33], fun z => ?_⟩, by dsimp only; omega⟩
        · by_cases q : b = a
          · rw [u_j (fun w => h ⟨q, Or.inl w⟩)]; exact hf b m z h
          · rw [u_b q]; exact hf b m z h
        · rw [u_if]
          by_cases q : z = j
          · rw [if_pos q, if_pos (by omega), q]
          · rw [if_neg q, hz]
            by_cases q1 : 0 ≤ z ∧ z < j
            · rw [if_pos q1, if_pos (by omega)]
            · rw [if_neg q1, if_neg (by omega)]
    · by_cases q : b = a
      · exact u_j (fun w => h ⟨q, Or.inr w⟩)
      · exact u_b q
  obtain ⟨W', l1, l2, l3, l4⟩ := L
  refine ⟨W', fun Z hZ => ?_, l2, l3, l4⟩
  unfold f_X12_undo
  rw [bq, if_pos hn, bq, bq, bq, bq, u_e, bq, l1, hZ]
theorem L_undo (h : RR A a V W) : ∃ V' W' u, f_X11_undo V (A 0) = (V', u) ∧ f_X12_undo W a = (W', u) ∧ RR A a V' W' := by
  have hA := h.1
  obtain ⟨g0, g1, g10, -⟩ := RR_G h
  obtain ⟨kk, e7, e8, e9, e10, e50, e51, e52, ec⟩ := RR_n h
  obtain ⟨-, -, ⟨hfl, -, -⟩, -, -, ⟨p1, p2, p3⟩, -⟩ := id h
  by_cases e : W a 33 0 = 0
  · obtain ⟨V2, W2, r1, r2, r3⟩ := RR_bad (k := -3) h (Or.inr (Or.inr (Or.inl ⟨rfl, rfl, rfl⟩)))
    refine ⟨V2, W2, -3, ?_, ?_, r3⟩
    · have hb : f_X4_takeBack V (A 15) (A 4) = (V, -3) := by
        unfold f_X4_takeBack
        rw [bq, if_neg (by omega)]
      unfold f_X11_undo
      rw [bq, g10, bq, g0, bq, g1, dv_bn2 hb, dv_bn2 r1]
    · unfold f_X12_undo
      rw [bq, if_neg (fun q => q e), dv_bn2 r2]
  · obtain ⟨V1, c1, c2, c3, c4, c5, c6, c7⟩ := c_back (V := V) (pa := A 15) (fl := A 4) (inj_n hA (by decide) (by decide) (by decide)) (by omega)
    obtain ⟨W1, m1, m2, m3, m4⟩ := m_undo (W := W) (a := a) e
    obtain ⟨⟨s1, s2, s3, s4, s5⟩, s6⟩ := p3 (W a 33 0 - 1) (by omega) (by omega)
    rw [p1] at c1 c3 c4 c5 c7
    have F : ∀ (j : Nat) (z : Int), j ≠ 2 → j ≠ 3 → j ≠ 4 → j ≠ 5 → j ≠ 10 → V1 (A 4) j z = V (A 4) j z := fun j z n2 n3 n4 n5 n10 => c2 _ j z (fun q => inj_n hA (by decide) (by decide) (by decide) q.1) (fun q => by have := q.2; omega)
    have f15 : ∀ z, V1 (A 15) 0 z = V (A 15) 0 z := fun z => c2 _ 0 z (fun q => absurd q.2 (by decide)) (fun q => inj_n hA (by decide) (by decide) (by decide) q.1)
    have wn : ∀ z, 29 ≤ z → W1 a 2 z = W a 2 z := fun z hz => by rw [m4, if_neg (by omega)]
    have kg1 : kgf (V1 (A 4)) := by
      refine kg_9 s6 (fun d d0 d9 => ?_) ⟨?_, ?_, ?_⟩ (F 7 0 (by decide) (by decide) (by decide) (by decide) (by decide)) (F 8 0 (by decide) (by decide) (by decide) (by decide) (by decide)) (F 9 0 (by decide) (by decide) (by decide) (by decide) (by decide)) ?_
      · obtain ⟨q3, q4, q2⟩ := c7 d d0 d9
        obtain ⟨t3, t4, t2⟩ := s5 d d0 d9
        exact ⟨F 0 d (by decide) (by decide) (by decide) (by decide) (by decide), F 1 d (by decide) (by decide) (by decide) (by decide) (by decide), q2.trans t2, q3.trans t3, q4.trans t4⟩
      · exact c5.trans s4
      · exact c6 1 (by decide)
      · exact c6 2 (by decide)
      · exact c4.trans s3
    have R : RR A a V1 W1 := by
      refine RR_act h (fun i m z hi hm hL => c2 _ m z (fun q => ?_) (fun q => ?_)) (fun m z hm => m2 a m z (fun q => ?_)) (fun z _ => c2 _ 1 z (fun q => inj_n hA (by decide) (by decide) (by decide) q.1) (fun q => inj_n hA (by decide) (by decide) (by decide) q.1)) (fun z hz => wn z (by omega)) ⟨ef_of ⟨?_, ?_, ?_, ?_, ?_, ?_, ?_, fun d d0 d9 => ?_⟩, kg1⟩ ⟨by rw [c3, m3], by rw [m3]; omega, fun u u0 u1 => ?_⟩
      · have := hA.1 i 15 hi (by decide) q.1
        subst this
        rw [q.2] at hL
        cases hL
      · have := hA.1 i 4 hi (by decide) q.1
        subst this
        cases hL
      · rcases q.2 with rfl | rfl <;> cases hm
      · rw [F 7 0 (by decide) (by decide) (by decide) (by decide) (by decide), wn 69 (by decide), e7]
      · rw [F 8 0 (by decide) (by decide) (by decide) (by decide) (by decide), wn 67 (by decide), e8]
      · rw [F 9 0 (by decide) (by decide) (by decide) (by decide) (by decide), wn 68 (by decide), e9]
      · rw [c4, m4, if_pos (by decide)]; exact s3
      · rw [c5, m4, if_pos (by decide)]; exact s4
      · rw [c6 1 (by decide), wn 65 (by decide), e51]
      · rw [c6 2 (by decide), wn 66 (by decide), e52]
      · obtain ⟨q3, q4, q2⟩ := c7 d d0 d9
        obtain ⟨t3, t4, t2⟩ := s5 d d0 d9
        obtain ⟨r0, r1, -⟩ := ec d d0 d9
        refine ⟨by rw [F 0 d (by decide) (by decide) (by decide) (by decide) (by decide), wn _ (by omega), r0], by rw [F 1 d (by decide) (by decide) (by decide) (by decide) (by decide), wn _ (by omega), r1], ?_, ?_, ?_⟩
        · rw [q2, m4, if_pos (by omega)]; exact t2
        · rw [q3, m4, if_pos (by omega)]; exact t3
        · rw [q4, m4, if_pos (by omega)]; exact t4
      · rw [m3] at u1
        rw [show W1 a 31 = W a 31 from funext fun z => m2 a 31 z (fun q => absurd q.2 (by decide)), show V1 (A 15) 0 = V (A 15) 0 from funext f15]
        obtain ⟨v1, v2⟩ := p3 u u0 (by omega)
        exact ⟨v1, mvf_eq (fun d => ⟨F 0 d (by decide) (by decide) (by decide) (by decide) (by decide), F 1 d (by decide) (by decide) (by decide) (by decide) (by decide), fun hd => c6 d hd⟩) (F 7 0 (by decide) (by decide) (by decide) (by decide) (by decide)) (F 8 0 (by decide) (by decide) (by decide) (by decide) (by decide)) (F 9 0 (by decide) (by decide) (by decide) (by decide) (by decide)) v2⟩
    obtain ⟨V2, W2, r1, r2, r3⟩ := RR_good (t := V (A 15) 0 (30 * (W a 33 0 - 1))) R s2.1
    refine ⟨V2, W2, _, ?_, m1 _ (by rw [← s1]; exact r2), r3⟩
    unfold f_X11_undo
    rw [bq, g10, bq, g0, bq, g1, dv_bn2 c1, dv_bn2 r1]
end QSY
section QSZ
variable {V V' V0 V1 V2 U U' W W' W0 W1 W2 : dV} {a b c z t k s p x y n u o d jd rk fl lx px py high wo κ : Int} {A : Nat → Int} {K K' ω : Int → Int} {φ ψ : Nat → Int → Int} {j m i : Nat}
/-- a carpet's numbers, for a law: the same in both -/
def jc_ok (V W : dV) (jd rk fl lx a c : Int) : Prop := V jd 0 0 = rk ∧ jd ≠ rk ∧ fl ≠ rk ∧ lx ≠ rk ∧ lw_ok V W lx a ∧ ((0 ≤ c ∧ c ≤ 8) ∧ (V fl 0 c = W a 2 (29 + c) ∧ 0 ≤ V fl 0 c ∧ V fl 0 c ≤ 12) ∧ (V fl 1 c = W a 2 (38 + c) ∧ 0 ≤ V fl 1 c ∧ V fl 1 c ≤ 9) ∧ (V fl 2 c = W a 2 c ∧ 0 ≤ V fl 2 c ∧ V fl 2 c ≤ 9) ∧ (V fl 5 0 = W a 2 28 ∧ 0 ≤ V fl 5 0 ∧ V fl 5 0 ≤ 999) ∧ (V fl 5 2 = W a 2 66 ∧ 0 ≤ V fl 5 2 ∧ V fl 5 2 ≤ 9)) ∧ ∀ k, 8 ≤ k → k < 23 → -2147483648 ≤ V rk 1 k ∧ V rk 1 k ≤ 2147483647
theorem jc_ask (h : jc_ok V W jd rk fl lx a c) (hp : -1 ≤ px ∧ px ≤ 12) (hq : -1 ≤ py ∧ py ≤ 12) (hh : 0 ≤ high ∧ high ≤ 99) (ho : 0 ≤ wo ∧ wo ≤ 99) : ∃ (V1 V' : dV) (y : Int) (W' : dV) (z : Int), f_X6_setLawWords V rk fl c px py = (V1, 0) ∧ kj_fr rk V V1 ∧ f_X2_holds V1 jd lx κ = (V', y) ∧ f_X12_tells W a (κ + 1) c px py high wo = (W', z) ∧ kj_fr rk V V' ∧ te_fr a W W' ∧ ((y = 1 ∧ ∃ v, z = clamp high v ∧ (κ ≠ 2 → V' rk 2 0 = v) ∧ (κ = 2 → v = 1)) ∨ (y = 0 ∧ z = wo)) := by
  obtain ⟨h1, h2, h3, h4, h5, ⟨hc, e0, ek, ep, t0, t2⟩, h8⟩ := h
  obtain ⟨V1, e1, F1, s0, s1, s2, s3, s4, s5, s6, s7⟩ := c_words (V := V) (c := c) (px := px) (py := py) h3
  have vx : lx ≠ -1 → ∀ m z, V1 lx m z = V lx m z := fun _ m z => F1.1 lx m z (fun q => h4 q.1)
  have hw : kw_ok V1 rk (fun k => if 0 ≤ k ∧ k < 23 then V1 rk 1 k else 0) := by
    refine ⟨fun k k0 k1 => by dsimp only; rw [if_pos ⟨k0, k1⟩], fun k => ?_⟩
    dsimp only
    by_cases e : 0 ≤ k ∧ k < 23
    · rw [if_pos e]
      by_cases e8 : 8 ≤ k
      · rw [F1.2 k e8]; exact h8 k e8 e.2
      · have hk : k = 0 ∨ k = 1 ∨ k = 2 ∨ k = 3 ∨ k = 4 ∨ k = 5 ∨ k = 6 ∨ k = 7 := by omega
        rcases hk with rfl | rfl | rfl | rfl | rfl | rfl | rfl | rfl
        · rw [s0]; omega
        · rw [s1]; omega
        · rw [s2]; omega
        · rw [s3]; omega
        · rw [s4]; omega
        · rw [s5]; omega
        · rw [s6]; omega
        · rw [s7]; omega
    · rw [if_neg e]; decide
  have hl1 : lw_ok V1 W lx a := by
    rcases h5 with h5 | ⟨k1, k2, k3⟩
    · exact Or.inl h5
    · have vv := vx k2
      refine Or.inr ⟨k1, k2, ?_⟩
      rw [show V1 lx 0 = V lx 0 from funext (vv 0), show V1 lx 1 = V lx 1 from funext (vv 1), vv, vv]
      exact k3
  have hj1 : V1 jd 0 0 = rk := by rw [F1.1 jd 0 0 (fun q => h2 q.1), h1]
  obtain ⟨V', y, W', z, f1, f2, f3, f4, f5⟩ := q_holds (κ := κ) (c := c) (px := px) (py := py) (high := high) (wo := wo) hl1 hj1 h2 h4 hw ⟨by rw [if_pos (by decide), s0], by rw [if_pos (by decide), s1, e0.1], by rw [if_pos (by decide), s2, ek.1], by rw [if_pos (by decide), s3, ep.1], by rw [if_pos (by decide), s4], by rw [if_pos (by decide), s5], by rw [if_pos (by decide), s6, t0.1], by rw [if_pos (by decide), s7, t2.1]⟩ hh ho
  exact ⟨V1, V', y, W', z, e1, F1, f1, f2, kj_t F1 (kj_q f3), f4, f5⟩
theorem jc_wear (h : jc_ok V W jd rk fl lx a c) (e3 : V fl 3 c = W a 2 (9 + c)) (e4 : V fl 4 c = W a 2 (18 + c)) (b3 : -1 ≤ V fl 3 c ∧ V fl 3 c ≤ 12) (b4 : -1 ≤ V fl 4 c ∧ V fl 4 c ≤ 12) : ∃ (V' W' : dV) (y : Int), f_X2_wearOf V jd lx fl c = (V', y) ∧ f_X12_wearsNow W a c = (W', y) ∧ kj_fr rk V V' ∧ te_fr a W W' ∧ 0 ≤ y ∧ y ≤ 9 := by
  obtain ⟨h1, h2, -⟩ := id h
  obtain ⟨V1, V', y, W', z, e1, F1, f1, f2, f3, f4, f5⟩ := jc_ask (κ := 1) (high := 9) (wo := 1) (px := V fl 3 c) (py := V fl 4 c) h b3 b4 (by decide) (by decide)
  have f2' : f_X12_tells W a 2 c (V fl 3 c) (V fl 4 c) 9 1 = (W', z) := f2
  have eW : f_X12_wearsNow W a c = (W', z) := by
    unfold f_X12_wearsNow
    rw [bq, bq, bq, bq, ← e3, ← e4, dv_bn2 f2']
  rw [eW]
  unfold f_X2_wearOf
  rw [bq, bq, bq, h1, dv_bn2 e1, dv_bn2 f1]
  rcases f5 with ⟨rfl, v, k1, k2, -⟩ | ⟨rfl, k1⟩
  · have vj : V' jd 0 0 = rk := by rw [f3.1 jd 0 0 (fun q => h2 q.1), h1]
    rw [if_neg (by decide), bq, vj, bq, k2 (by decide), bq, bq, ← clamp_99 (by decide), ← k1]
    refine ⟨V', W', z, rfl, rfl, f3, f4, ?_⟩
    rw [k1, clamp_99 (by decide)]; omega
  · rw [if_pos rfl, k1]
    exact ⟨V', W', 1, rfl, rfl, f3, f4, by decide⟩
/-- a carpet is rags by the year -/
abbrev yrG (φ : Nat → Int → Int) (ω : Int → Int) (d : Int) : Prop := φ 3 d ≠ -1 ∧ max 0 (φ 2 d - ω d) = 0
/-- a year has passed for the carpets below j -/
def yrI (V : dV) (fl rk : Int) (ω : Int → Int) (j : Int) (U : dV) : Prop := (∀ b m z, ¬ (b = fl ∧ (m = 2 ∨ m = 3 ∨ m = 4)) → ¬ (b = rk ∧ m ≤ 3) → U b m z = V b m z) ∧ (∀ z, 8 ≤ z → U rk 1 z = V rk 1 z) ∧ 0 ≤ j ∧ ∀ z, (U fl 2 z = if (0 ≤ z ∧ z < j) ∧ V fl 3 z ≠ -1 then max 0 (V fl 2 z - ω z) else V fl 2 z) ∧ (U fl 3 z = if (0 ≤ z ∧ z < j) ∧ V fl 3 z ≠ -1 ∧ max 0 (V fl 2 z - ω z) = 0 then -1 else V fl 3 z) ∧ U fl 4 z = if (0 ≤ z ∧ z < j) ∧ V fl 3 z ≠ -1 ∧ max 0 (V fl 2 z - ω z) = 0 then -1 else V fl 4 z
theorem yrI_0 : yrI V fl rk ω 0 V := ⟨fun _ _ _ _ _ => rfl, fun _ _ => rfl, Int.le_refl 0, fun z => ⟨by rw [if_neg (by omega)], by rw [if_neg (by omega)], by rw [if_neg (by omega)]⟩⟩
theorem yr_st {P Q : Prop} [Decidable P] [Decidable Q] {u v w : Int} (h : P ↔ Q) : (if P then u else v) = if Q then u else v := by
  by_cases e : P
  · rw [if_pos e, if_pos (h.mp e)]
  · rw [if_neg e, if_neg (fun q => e (h.mpr q))]
theorem yrI_n (h : yrI V fl rk ω d U) (e3 : V fl 3 d = -1) : yrI V fl rk ω (d + 1) U := by
  obtain ⟨h1, h2, h3, h4⟩ := h
  refine ⟨h1, h2, by omega, fun z => ?_⟩
  obtain ⟨q2, q3, q4⟩ := h4 z
  have k : ((0 ≤ z ∧ z < d) ∧ V fl 3 z ≠ -1) ↔ ((0 ≤ z ∧ z < d + 1) ∧ V fl 3 z ≠ -1) := by
    constructor
    · rintro ⟨w1, w2⟩; exact ⟨by omega, w2⟩
    · rintro ⟨w1, w2⟩
      refine ⟨⟨w1.1, ?_⟩, w2⟩
      by_cases w : z = d
      · rw [w] at w2; exact absurd e3 w2
      · omega
  have k' : ((0 ≤ z ∧ z < d) ∧ V fl 3 z ≠ -1 ∧ max 0 (V fl 2 z - ω z) = 0) ↔ ((0 ≤ z ∧ z < d + 1) ∧ V fl 3 z ≠ -1 ∧ max 0 (V fl 2 z - ω z) = 0) := ⟨fun w => ⟨(k.mp ⟨w.1, w.2.1⟩).1, w.2⟩, fun w => ⟨(k.mpr ⟨w.1, w.2.1⟩).1, w.2⟩⟩
  exact ⟨by rw [q2]; exact yr_st (w := 0) k, by rw [q3]; exact yr_st (w := 0) k', by rw [q4]; exact yr_st (w := 0) k'⟩
theorem yrI_l (hf : fl ≠ rk) (h : yrI V fl rk ω d U) (k2 : kj_fr rk U U') (e3 : V fl 3 d ≠ -1) (d0 : 0 ≤ d) (e0 : max 0 (V fl 2 d - ω d) ≠ 0) : yrI V fl rk ω (d + 1) (dv_u U' fl 2 d (max 0 (V fl 2 d - ω d))) := by
  obtain ⟨h1, h2, h3, h4⟩ := h
  have hu : ∀ m z, U' fl m z = U fl m z := fun m z => k2.1 fl m z (fun q => hf q.1)
  refine ⟨fun b m z n1 n2 => ?_, fun z hz => ?_, by omega, fun z => ⟨?_, ?_, ?_⟩⟩
  · by_cases q : b = fl
    · rw [u_j (fun w => n1 ⟨q, Or.inl w⟩), k2.1 b m z n2]; exact h1 b m z n1 n2
    · rw [u_b q, k2.1 b m z n2]; exact h1 b m z n1 n2
  · rw [u_b (Ne.symm hf), k2.2 z hz]; exact h2 z hz
  · rw [u_if]
    by_cases q : z = d
    · rw [if_pos q, if_pos ⟨by omega, by rw [q]; exact e3⟩, q]
    · rw [if_neg q, hu, (h4 z).1]
      refine yr_st (w := 0) ⟨fun w => ⟨by omega, w.2⟩, fun w => ⟨by omega, w.2⟩⟩
  · rw [u_j (by decide), hu, (h4 z).2.1]
    refine yr_st (w := 0) ⟨fun w => ⟨by omega, w.2⟩, fun w => ⟨⟨w.1.1, ?_⟩, w.2⟩⟩
    by_cases q : z = d
    · rw [q] at w; exact absurd w.2.2 e0
    · omega
  · rw [u_j (by decide), hu, (h4 z).2.2]
    refine yr_st (w := 0) ⟨fun w => ⟨by omega, w.2⟩, fun w => ⟨⟨w.1.1, ?_⟩, w.2⟩⟩
    by_cases q : z = d
    · rw [q] at w; exact absurd w.2.2 e0
    · omega
theorem yrI_g (hf : fl ≠ rk) (h : yrI V fl rk ω d U) (k2 : kj_fr rk U U') (e3 : V fl 3 d ≠ -1) (d0 : 0 ≤ d) (e0 : max 0 (V fl 2 d - ω d) = 0) : yrI V fl rk ω (d + 1) (dv_u (dv_u (dv_u U' fl 2 d (max 0 (V fl 2 d - ω d))) fl 3 d (-1)) fl 4 d (-1)) := by
  obtain ⟨h1, h2, h3, h4⟩ := h
  have hu : ∀ m z, U' fl m z = U fl m z := fun m z => k2.1 fl m z (fun q => hf q.1)
  refine ⟨fun b m z n1 n2 => ?_, fun z hz => ?_, by omega, fun z => ⟨?_, ?_, ?_⟩⟩
  · by_cases q : b = fl
    · rw [u_j (fun w => n1 ⟨q, Or.inr (Or.inr w)⟩), u_j (fun w => n1 ⟨q, Or.inr (Or.inl w)⟩), u_j (fun w => n1 ⟨q, Or.inl w⟩), k2.1 b m z n2]; exact h1 b m z n1 n2
    · rw [u_b q, u_b q, u_b q, k2.1 b m z n2]; exact h1 b m z n1 n2
  · rw [u_b (Ne.symm hf), u_b (Ne.symm hf), u_b (Ne.symm hf), k2.2 z hz]; exact h2 z hz
  · rw [u_j (by decide), u_j (by decide), u_if]
    by_cases q : z = d
    · rw [if_pos q, if_pos ⟨by omega, by rw [q]; exact e3⟩, q]
    · rw [if_neg q, hu, (h4 z).1]
      refine yr_st (w := 0) ⟨fun w => ⟨by omega, w.2⟩, fun w => ⟨by omega, w.2⟩⟩
  · rw [u_j (by decide), u_if]
    by_cases q : z = d
    · rw [if_pos q, if_pos ⟨by omega, by rw [q]; exact ⟨e3, e0⟩⟩]
    · rw [if_neg q, u_j (by decide), hu, (h4 z).2.1]
      refine yr_st (w := 0) ⟨fun w => ⟨by omega, w.2⟩, fun w => ⟨by omega, w.2⟩⟩
  · rw [u_if]
    by_cases q : z = d
    · rw [if_pos q, if_pos ⟨by omega, by rw [q]; exact ⟨e3, e0⟩⟩]
    · rw [if_neg q, u_j (by decide), u_j (by decide), hu, (h4 z).2.2]
      refine yr_st (w := 0) ⟨fun w => ⟨by omega, w.2⟩, fun w => ⟨by omega, w.2⟩⟩
theorem c_year0 (hk : kgf (V fl)) (hy : V fl 5 0 ≤ 998) (hfr : fl ≠ rk) (hw : ∀ (U : dV) (d : Int), 0 ≤ d → d < V fl 7 0 → V fl 3 d ≠ -1 → yrI V fl rk ω d U → ∃ U' : dV, f_X2_wearOf U jd (-1) fl d = (U', ω d) ∧ kj_fr rk U U') (hω : ∀ d, 0 ≤ ω d ∧ ω d ≤ 9) : ∃ (V' : dV), f_X1_wearAYear_0 V fl jd (-1) = (V', qs (fun i => if yrG (V fl) ω (i : Int) then 1 else 0) (V fl 7 0).toNat) ∧ yrI V fl rk ω (V fl 7 0) (dv_u V' fl 5 0 (V fl 5 0)) ∧ V' fl 5 0 = V fl 5 0 + 1 := by
  have n9 := hk.1.1
  have hyy := hk.2.2.2.2.2.2.1
  unfold f_X1_wearAYear_0
  refine dv_inv (P := fun q => ∃ (U : dV) (j : Nat), q = (U, fl, jd, qs (fun i => if yrG (V fl) ω (i : Int) then 1 else 0) j, (j : Int)) ∧ (j : Int) ≤ V fl 7 0 ∧ yrI V fl rk ω (j : Int) U) (Q := fun q => ∃ V' : dV, q = (V', qs (fun i => if yrG (V fl) ω (i : Int) then 1 else 0) (V fl 7 0).toNat) ∧ yrI V fl rk ω (V fl 7 0) (dv_u V' fl 5 0 (V fl 5 0)) ∧ V' fl 5 0 = V fl 5 0 + 1) (m := fun q => (V fl 7 0 - q.2.2.2.2).toNat) ?_ _ ⟨V, 0, rfl, by omega, yrI_0⟩
  rintro q ⟨U, j, rfl, j1, hI⟩
  obtain ⟨i1, i2, i3, i4⟩ := id hI
  have u7 : U fl 7 0 = V fl 7 0 := i1 fl 7 0 (fun q => absurd q.2 (by decide)) (fun q => hfr q.1)
  have u5 : U fl 5 0 = V fl 5 0 := i1 fl 5 0 (fun q => absurd q.2 (by decide)) (fun q => hfr q.1)
  rw [f_X1_wearAYear_0_5e]
  unfold f_X1_wearAYear_0_5c f_X1_wearAYear_0_72
  rw [bq, u7]
  by_cases e : V fl 7 0 ≤ (j : Int)
  · have ej : (V fl 7 0).toNat = j := by omega
    rw [if_pos e, bq, u5, bq, dv_add_ok (by omega) (by omega) (by omega) (by omega) (by omega) (by omega), bq]
    refine Or.inr ⟨_, rfl, _, by rw [ej], ?_, u_e⟩
    rw [dv_uu, dv_us u5, show V fl 7 0 = (j : Int) by omega]
    exact hI
  · rw [if_neg e]
    have hb := qs_b (f := fun i : Nat => if yrG (V fl) ω (i : Int) then (1 : Int) else 0) (n := j) (k := 1) (fun i _ => by split <;> omega)
    have uz := i4 (j : Int)
    have h2 : U fl 2 (j : Int) = V fl 2 (j : Int) := by rw [uz.1, if_neg (by omega)]
    have h3 : U fl 3 (j : Int) = V fl 3 (j : Int) := by rw [uz.2.1, if_neg (by omega)]
    have sq : qs (fun i => if yrG (V fl) ω (i : Int) then (1 : Int) else 0) (j + 1) = qs (fun i => if yrG (V fl) ω (i : Int) then 1 else 0) j + (if yrG (V fl) ω (j : Int) then 1 else 0) := rfl
    have cj : (j : Int) + 1 = ((j + 1 : Nat) : Int) := by omega
    by_cases e3 : V fl 3 (j : Int) = -1
    · have lV : f_X1_isLaid U fl (j : Int) = (0, ()) := by rw [q_isLaid, if_neg (fun q => q.2.2 (by rw [h3]; exact e3))]
      rw [dv_bn2 lV, if_neg (fun q => q rfl), bq]
      refine Or.inl ⟨_, rfl, ⟨U, j + 1, ?_, by omega, ?_⟩, by dsimp only; omega⟩
      · rw [sq, if_neg (fun q => q.1 e3), Int.add_zero, cj]
      · rw [← cj]; exact yrI_n hI e3
    · have lV : f_X1_isLaid U fl (j : Int) = (1, ()) := by rw [q_isLaid, if_pos ⟨by omega, by rw [u7]; omega, by rw [h3]; exact e3⟩]
      obtain ⟨U1, k1, k2⟩ := hw U (j : Int) (by omega) (by omega) e3 hI
      have hs := (hk.2.2.1 (j : Int) (by omega) (by omega)).2.2.2
      have ho := hω (j : Int)
      have v7 : dv_u U1 fl 2 (j : Int) (max 0 (V fl 2 (j : Int) - ω (j : Int))) fl 7 0 = V fl 7 0 := by rw [u_j (by decide), k2.1 fl 7 0 (fun q => hfr q.1), u7]
      rw [dv_bn2 lV, if_pos (by decide), bq, dv_bn2 k1, h2, dv_sub_ok (by omega) (by omega) (by omega) (by omega) (by omega) (by omega), bq, bq, bq, bq, u_e]
      by_cases e0 : max 0 (V fl 2 (j : Int) - ω (j : Int)) = 0
      · rw [if_neg (fun q => q e0), dv_bn2 (c_rollUp (by rw [v7]; omega)), dv_add_ok (by omega) (by omega) (by omega) (by omega) (by omega) (by omega), bq, bq]
        refine Or.inl ⟨_, rfl, ⟨dv_u (dv_u (dv_u U1 fl 2 (j : Int) (max 0 (V fl 2 (j : Int) - ω (j : Int)))) fl 3 (j : Int) (-1)) fl 4 (j : Int) (-1), j + 1, ?_, by omega, ?_⟩, by dsimp only; omega⟩
        · rw [sq, if_pos ⟨e3, e0⟩, cj]
        · rw [← cj]; exact yrI_g hfr hI k2 e3 (by omega) e0
      · rw [if_pos e0, bq]
        refine Or.inl ⟨_, rfl, ⟨dv_u U1 fl 2 (j : Int) (max 0 (V fl 2 (j : Int) - ω (j : Int))), j + 1, ?_, by omega, ?_⟩, by dsimp only; omega⟩
        · rw [sq, if_neg (fun q => e0 q.2), Int.add_zero, cj]
        · rw [← cj]; exact yrI_l hfr hI k2 e3 (by omega) e0
theorem c_year1 (hk : kgf (V fl)) (hy : V fl 5 0 ≤ 998) (hfr : fl ≠ rk) (hw : ∀ (U : dV) (d : Int), 0 ≤ d → d < V fl 7 0 → V fl 3 d ≠ -1 → yrI V fl rk ω d U → ∃ U' : dV, f_X2_wearOf U jd lx fl d = (U', ω d) ∧ kj_fr rk U U') (hω : ∀ d, 0 ≤ ω d ∧ ω d ≤ 9) : ∃ (V' : dV), f_X1_wearAYear_1 V fl jd lx = (V', qs (fun i => if yrG (V fl) ω (i : Int) then 1 else 0) (V fl 7 0).toNat) ∧ yrI V fl rk ω (V fl 7 0) (dv_u V' fl 5 0 (V fl 5 0)) ∧ V' fl 5 0 = V fl 5 0 + 1 := by
  have n9 := hk.1.1
  have hyy := hk.2.2.2.2.2.2.1
  unfold f_X1_wearAYear_1
  refine dv_inv (P := fun q => ∃ (U : dV) (j : Nat), q = (U, fl, jd, lx, qs (fun i => if yrG (V fl) ω (i : Int) then 1 else 0) j, (j : Int)) ∧ (j : Int) ≤ V fl 7 0 ∧ yrI V fl rk ω (j : Int) U) (Q := fun q => ∃ V' : dV, q = (V', qs (fun i => if yrG (V fl) ω (i : Int) then 1 else 0) (V fl 7 0).toNat) ∧ yrI V fl rk ω (V fl 7 0) (dv_u V' fl 5 0 (V fl 5 0)) ∧ V' fl 5 0 = V fl 5 0 + 1) (m := fun q => (V fl 7 0 - q.2.2.2.2.2).toNat) ?_ _ ⟨V, 0, rfl, by omega, yrI_0⟩
  rintro q ⟨U, j, rfl, j1, hI⟩
  obtain ⟨i1, i2, i3, i4⟩ := id hI
  have u7 : U fl 7 0 = V fl 7 0 := i1 fl 7 0 (fun q => absurd q.2 (by decide)) (fun q => hfr q.1)
  have u5 : U fl 5 0 = V fl 5 0 := i1 fl 5 0 (fun q => absurd q.2 (by decide)) (fun q => hfr q.1)
  rw [f_X1_wearAYear_1_5e]
  unfold f_X1_wearAYear_1_5c f_X1_wearAYear_1_72
  rw [bq, u7]
  by_cases e : V fl 7 0 ≤ (j : Int)
  · have ej : (V fl 7 0).toNat = j := by omega
    rw [if_pos e, bq, u5, bq, dv_add_ok (by omega) (by omega) (by omega) (by omega) (by omega) (by omega), bq]
    refine Or.inr ⟨_, rfl, _, by rw [ej], ?_, u_e⟩
    rw [dv_uu, dv_us u5, show V fl 7 0 = (j : Int) by omega]
    exact hI
  · rw [if_neg e]
    have hb := qs_b (f := fun i : Nat => if yrG (V fl) ω (i : Int) then (1 : Int) else 0) (n := j) (k := 1) (fun i _ => by split <;> omega)
    have uz := i4 (j : Int)
    have h2 : U fl 2 (j : Int) = V fl 2 (j : Int) := by rw [uz.1, if_neg (by omega)]
    have h3 : U fl 3 (j : Int) = V fl 3 (j : Int) := by rw [uz.2.1, if_neg (by omega)]
    have sq : qs (fun i => if yrG (V fl) ω (i : Int) then (1 : Int) else 0) (j + 1) = qs (fun i => if yrG (V fl) ω (i : Int) then 1 else 0) j + (if yrG (V fl) ω (j : Int) then 1 else 0) := rfl
    have cj : (j : Int) + 1 = ((j + 1 : Nat) : Int) := by omega
    by_cases e3 : V fl 3 (j : Int) = -1
    · have lV : f_X1_isLaid U fl (j : Int) = (0, ()) := by rw [q_isLaid, if_neg (fun q => q.2.2 (by rw [h3]; exact e3))]
      rw [dv_bn2 lV, if_neg (fun q => q rfl), bq]
      refine Or.inl ⟨_, rfl, ⟨U, j + 1, ?_, by omega, ?_⟩, by dsimp only; omega⟩
      · rw [sq, if_neg (fun q => q.1 e3), Int.add_zero, cj]
      · rw [← cj]; exact yrI_n hI e3
    · have lV : f_X1_isLaid U fl (j : Int) = (1, ()) := by rw [q_isLaid, if_pos ⟨by omega, by rw [u7]; omega, by rw [h3]; exact e3⟩]
      obtain ⟨U1, k1, k2⟩ := hw U (j : Int) (by omega) (by omega) e3 hI
      have hs := (hk.2.2.1 (j : Int) (by omega) (by omega)).2.2.2
      have ho := hω (j : Int)
      have v7 : dv_u U1 fl 2 (j : Int) (max 0 (V fl 2 (j : Int) - ω (j : Int))) fl 7 0 = V fl 7 0 := by rw [u_j (by decide), k2.1 fl 7 0 (fun q => hfr q.1), u7]
      rw [dv_bn2 lV, if_pos (by decide), bq, dv_bn2 k1, h2, dv_sub_ok (by omega) (by omega) (by omega) (by omega) (by omega) (by omega), bq, bq, bq, bq, u_e]
      by_cases e0 : max 0 (V fl 2 (j : Int) - ω (j : Int)) = 0
      · rw [if_neg (fun q => q e0), dv_bn2 (c_rollUp (by rw [v7]; omega)), dv_add_ok (by omega) (by omega) (by omega) (by omega) (by omega) (by omega), bq, bq]
        refine Or.inl ⟨_, rfl, ⟨dv_u (dv_u (dv_u U1 fl 2 (j : Int) (max 0 (V fl 2 (j : Int) - ω (j : Int)))) fl 3 (j : Int) (-1)) fl 4 (j : Int) (-1), j + 1, ?_, by omega, ?_⟩, by dsimp only; omega⟩
        · rw [sq, if_pos ⟨e3, e0⟩, cj]
        · rw [← cj]; exact yrI_g hfr hI k2 e3 (by omega) e0
      · rw [if_pos e0, bq]
        refine Or.inl ⟨_, rfl, ⟨dv_u U1 fl 2 (j : Int) (max 0 (V fl 2 (j : Int) - ω (j : Int))), j + 1, ?_, by omega, ?_⟩, by dsimp only; omega⟩
        · rw [sq, if_neg (fun q => e0 q.2), Int.add_zero, cj]
        · rw [← cj]; exact yrI_l hfr hI k2 e3 (by omega) e0
theorem c_year (hk : kgf (V fl)) (hy : V fl 5 0 ≤ 998) (hfr : fl ≠ rk) (hw : ∀ (U : dV) (d : Int), 0 ≤ d → d < V fl 7 0 → V fl 3 d ≠ -1 → yrI V fl rk ω d U → ∃ U' : dV, f_X2_wearOf U jd lx fl d = (U', ω d) ∧ kj_fr rk U U') (hω : ∀ d, 0 ≤ ω d ∧ ω d ≤ 9) : ∃ (V' : dV), f_X1_wearAYear V fl jd lx = (V', qs (fun i => if yrG (V fl) ω (i : Int) then 1 else 0) (V fl 7 0).toNat) ∧ yrI V fl rk ω (V fl 7 0) (dv_u V' fl 5 0 (V fl 5 0)) ∧ V' fl 5 0 = V fl 5 0 + 1 := by
  unfold f_X1_wearAYear
  by_cases e : lx = -1
  · subst e
    rw [if_pos rfl]
    exact c_year0 hk hy hfr hw hω
  · rw [if_neg e]
    exact c_year1 hk hy hfr hw hω
end QSZ
section QTA
variable {V V' V0 V1 V2 U U' W W' W0 W1 W2 : dV} {a b c z t k s p x y n u o d jd rk fl lx : Int} {A : Nat → Int} {K K' ω : Int → Int} {φ ψ : Nat → Int → Int} {j m i : Nat}
def ym_fr (a : Int) (W W' : dV) : Prop := ∀ b m z, ¬ (b = a ∧ ((22 ≤ m ∧ m ≤ 26) ∨ m = 30)) → W' b m z = W b m z
theorem ym_t (h : ym_fr a W W') (h1 : ym_fr a W' W1) : ym_fr a W W1 := fun b m z k => (h1 b m z k).trans (h b m z k)
theorem ym_e (h : te_fr a W W') : ym_fr a W W' := fun b m z k => h b m z (fun q => k ⟨q.1, Or.inl q.2⟩)
theorem ym_30 : ym_fr a W (dv_u W a 30 z y) := fun b m z' k => by
  unfold dv_u; rw [if_neg (fun e => k ⟨e.1, Or.inr e.2.1⟩)]
/-- what all wear, asked ahead -/
theorem m_year1 (hn : 0 ≤ W a 2 69) (hw : ∀ (U : dV) (d : Int), 0 ≤ d → d < W a 2 69 → W a 2 (9 + d) ≠ -1 → ym_fr a W U → ∃ U' : dV, f_X12_wearsNow U a d = (U', ω d) ∧ te_fr a U U') (he : ∀ U : dV, ym_fr a W U → (∀ d, 0 ≤ d → d < W a 2 69 → W a 2 (9 + d) ≠ -1 → U a 30 d = ω d) → ∃ r : dR, dv_lp f_X12_yearPasses_43b (U, a, 0, 0) = Sum.inr r) : ∃ W1 : dV, dv_lp f_X12_yearPasses_43b (W1, a, 0, 0) = Sum.inr (dv_lp f_X12_yearPasses_4b (W, a, 0)) ∧ ym_fr a W W1 ∧ ∀ d, 0 ≤ d → d < W a 2 69 → W a 2 (9 + d) ≠ -1 → W1 a 30 d = ω d := by
  refine dv_inv (P := fun q => ∃ (U : dV) (j : Int), q = (U, a, j) ∧ 0 ≤ j ∧ j ≤ W a 2 69 ∧ ym_fr a W U ∧ ∀ d, 0 ≤ d → d < j → W a 2 (9 + d) ≠ -1 → U a 30 d = ω d) (Q := fun q => ∃ W1 : dV, dv_lp f_X12_yearPasses_43b (W1, a, 0, 0) = Sum.inr q ∧ ym_fr a W W1 ∧ ∀ d, 0 ≤ d → d < W a 2 69 → W a 2 (9 + d) ≠ -1 → W1 a 30 d = ω d) (m := fun q => (W a 2 69 - q.2.2).toNat) ?_ _ ⟨W, 0, rfl, by omega, hn, fun _ _ _ _ => rfl, fun d d0 d1 => absurd d1 (by omega)⟩
  rintro q ⟨U, j, rfl, j0, j1, hf, hz⟩
  have u2 : ∀ z, U a 2 z = W a 2 z := fun z => hf a 2 z (fun q => absurd q.2 (by omega))
  rw [f_X12_yearPasses_4e]
  unfold f_X12_yearPasses_4c
  rw [dv_bn2 q_many, u2]
  by_cases e : W a 2 69 ≤ j
  · rw [if_pos e]
    have hz' : ∀ d, 0 ≤ d → d < W a 2 69 → W a 2 (9 + d) ≠ -1 → U a 30 d = ω d := fun d d0 d1 => hz d d0 (by omega)
    obtain ⟨r, hr⟩ := he U hf hz'
    exact Or.inr ⟨r, hr, U, hr, hf, hz'⟩
  · rw [if_neg e]
    by_cases e3 : W a 2 (9 + j) = -1
    · have lW : f_X12_isLaid U a j = (0, ()) := by rw [q_mLaid, if_pos (by rw [u2]; exact e3)]
      rw [dv_bn2 lW, if_pos rfl, bq, bq]
      refine Or.inl ⟨_, rfl, ⟨_, j + 1, rfl, by omega, by omega, ym_t hf ym_30, fun d d0 d1 hd => ?_⟩, by dsimp only; omega⟩
      by_cases q : d = j
      · rw [q] at hd; exact absurd e3 hd
      · rw [u_i q]; exact hz d d0 (by omega) hd
    · have lW : f_X12_isLaid U a j = (1, ()) := by rw [q_mLaid, if_neg (by rw [u2]; exact e3)]
      obtain ⟨U', k1, k2⟩ := hw U j j0 (by omega) e3 hf
      rw [dv_bn2 lW, if_neg (by decide), dv_bn2 k1, bq, bq]
      refine Or.inl ⟨_, rfl, ⟨_, j + 1, rfl, by omega, by omega, ym_t (ym_t hf (ym_e k2)) ym_30, fun d d0 d1 hd => ?_⟩, by dsimp only; omega⟩
      by_cases q : d = j
      · rw [q, u_e]
      · rw [u_i q, k2 a 30 d (fun q => absurd q.2 (by omega))]; exact hz d d0 (by omega) hd
/-- a carpet is rags by the year, as the reference has it -/
abbrev ymG (K ω : Int → Int) (d : Int) : Prop := K (9 + d) ≠ -1 ∧ max 0 (K d - ω d) = 0
/-- a year has passed for the carpets below j -/
def ymI (K ω : Int → Int) (j : Int) (K' : Int → Int) : Prop := (∀ z, 27 ≤ z → K' z = K z) ∧ ∀ d, 0 ≤ d → d < 9 → (K' d = if d < j ∧ K (9 + d) ≠ -1 then max 0 (K d - ω d) else K d) ∧ (K' (9 + d) = if d < j ∧ K (9 + d) ≠ -1 ∧ max 0 (K d - ω d) = 0 then -1 else K (9 + d)) ∧ K' (18 + d) = if d < j ∧ K (9 + d) ≠ -1 ∧ max 0 (K d - ω d) = 0 then -1 else K (18 + d)
theorem m_year2 (hn : 0 ≤ W a 2 69 ∧ W a 2 69 ≤ 9) (hy : 0 ≤ W a 2 28 ∧ W a 2 28 ≤ 998) (hw : ∀ d, 0 ≤ d → d < W a 2 69 → W a 2 (9 + d) ≠ -1 → W a 30 d = ω d ∧ (0 ≤ ω d ∧ ω d ≤ 9) ∧ 0 ≤ W a 2 d ∧ W a 2 d ≤ 9) : ∃ W' : dV, dv_lp f_X12_yearPasses_43b (W, a, 0, 0) = Sum.inr (W', qs (fun i => if ymG (W a 2) ω (i : Int) then 1 else 0) (W a 2 69).toNat) ∧ (∀ b m z, ¬ (b = a ∧ m = 2) → W' b m z = W b m z) ∧ W' a 2 28 = W a 2 28 + 1 ∧ ymI (W a 2) ω (W a 2 69) (fun z => if z = 28 then W a 2 28 else W' a 2 z) := by
  refine dv_inv (P := fun q => ∃ (U : dV) (j : Nat), q = (U, a, qs (fun i => if ymG (W a 2) ω (i : Int) then 1 else 0) j, (j : Int)) ∧ (j : Int) ≤ W a 2 69 ∧ (∀ b m z, ¬ (b = a ∧ m = 2) → U b m z = W b m z) ∧ ymI (W a 2) ω (j : Int) (U a 2)) (Q := fun q => ∃ W' : dV, q = Sum.inr (W', qs (fun i => if ymG (W a 2) ω (i : Int) then 1 else 0) (W a 2 69).toNat) ∧ (∀ b m z, ¬ (b = a ∧ m = 2) → W' b m z = W b m z) ∧ W' a 2 28 = W a 2 28 + 1 ∧ ymI (W a 2) ω (W a 2 69) (fun z => if z = 28 then W a 2 28 else W' a 2 z)) (m := fun q => (W a 2 69 - q.2.2.2).toNat) ?_ _ ⟨W, 0, rfl, by omega, fun _ _ _ _ => rfl, fun _ _ => rfl, fun d d0 d9 => ⟨by rw [if_neg (by omega)], by rw [if_neg (by omega)], by rw [if_neg (by omega)]⟩⟩
  rintro q ⟨U, j, rfl, j1, hf, hI1, hI2⟩
  have u69 := hI1 69 (by decide)
  have u28 := hI1 28 (by decide)
  rw [f_X12_yearPasses_43e]
  unfold f_X12_yearPasses_43c
  rw [dv_bn2 q_many, u69]
  by_cases e : W a 2 69 ≤ (j : Int)
  · have ej : (W a 2 69).toNat = j := by omega
    rw [if_pos e, bq, u28, bq, dv_add_ok (by omega) (by omega) (by omega) (by omega) (by omega) (by omega), bq]
    refine Or.inr ⟨_, rfl, _, by rw [ej], fun b m z h => ?_, u_e, fun z hz => ?_, fun d d0 d9 => ?_⟩
    · by_cases q : b = a
      · rw [u_j (fun w => h ⟨q, w⟩)]; exact hf b m z h
      · rw [u_b q]; exact hf b m z h
    · dsimp only
      by_cases q : z = 28
      · rw [if_pos q, q]
      · rw [if_neg q, u_i q]; exact hI1 z hz
    · dsimp only
      rw [if_neg (show ¬ d = 28 by omega), u_i (show d ≠ 28 by omega), if_neg (show ¬ 9 + d = 28 by omega), u_i (show 9 + d ≠ 28 by omega), if_neg (show ¬ 18 + d = 28 by omega), u_i (show 18 + d ≠ 28 by omega), show W a 2 69 = (j : Int) by omega]
      exact hI2 d d0 d9
  · rw [if_neg e]
    obtain ⟨z2, z3, z4⟩ := hI2 (j : Int) (by omega) (by omega)
    rw [if_neg (by omega)] at z2 z3 z4
    have sq : qs (fun i => if ymG (W a 2) ω (i : Int) then (1 : Int) else 0) (j + 1) = qs (fun i => if ymG (W a 2) ω (i : Int) then 1 else 0) j + (if ymG (W a 2) ω (j : Int) then 1 else 0) := rfl
    have cj : (j : Int) + 1 = ((j + 1 : Nat) : Int) := by omega
    have u30 : ∀ z, U a 30 z = W a 30 z := fun z => hf a 30 z (fun q => absurd q.2 (by decide))
    by_cases e3 : W a 2 (9 + (j : Int)) = -1
    · have lW : f_X12_isLaid U a (j : Int) = (0, ()) := by rw [q_mLaid, if_pos (by rw [z3]; exact e3)]
      rw [dv_bn2 lW, if_neg (fun q => q rfl), bq]
      refine Or.inl ⟨_, rfl, ⟨U, j + 1, ?_, by omega, hf, hI1, fun d d0 d9 => ?_⟩, by dsimp only; omega⟩
      · rw [sq, if_neg (fun q => q.1 e3), Int.add_zero, cj]
      · obtain ⟨q2, q3, q4⟩ := hI2 d d0 d9
        have k : (d < (j : Int) ∧ W a 2 (9 + d) ≠ -1) ↔ (d < ((j + 1 : Nat) : Int) ∧ W a 2 (9 + d) ≠ -1) := by
          constructor
          · rintro ⟨w1, w2⟩; exact ⟨by omega, w2⟩
          · rintro ⟨w1, w2⟩
            refine ⟨?_, w2⟩
            by_cases w : d = (j : Int)
            · rw [w] at w2; exact absurd e3 w2
            · omega
        have k' : (d < (j : Int) ∧ W a 2 (9 + d) ≠ -1 ∧ max 0 (W a 2 d - ω d) = 0) ↔ (d < ((j + 1 : Nat) : Int) ∧ W a 2 (9 + d) ≠ -1 ∧ max 0 (W a 2 d - ω d) = 0) := ⟨fun w => ⟨(k.mp ⟨w.1, w.2.1⟩).1, w.2⟩, fun w => ⟨(k.mpr ⟨w.1, w.2.1⟩).1, w.2⟩⟩
        exact ⟨by rw [q2]; exact yr_st (w := 0) k, by rw [q3]; exact yr_st (w := 0) k', by rw [q4]; exact yr_st (w := 0) k'⟩
    · have lW : f_X12_isLaid U a (j : Int) = (1, ()) := by rw [q_mLaid, if_neg (by rw [z3]; exact e3)]
      obtain ⟨h30, ho, hp⟩ := hw (j : Int) (by omega) (by omega) e3
      rw [dv_bn2 lW, if_pos (by decide), bq, bq, bq, bq, Int.zero_add, z2, u30, h30, dv_sub_ok (by omega) (by omega) (by omega) (by omega) (by omega) (by omega), bq, dv_bn2 q_greater, bq]
      have hwh : ∀ v : Int, f_X12_isWhole (dv_u U a 2 (j : Int) v) a (j : Int) = (if 0 < v then 1 else 0, ()) := fun v => by rw [q_mWhole, u_e]
      by_cases e0 : max 0 (W a 2 (j : Int) - ω (j : Int)) = 0
      · have hw0 : f_X12_isWhole (dv_u U a 2 (j : Int) (max 0 (W a 2 (j : Int) - ω (j : Int)))) a (j : Int) = (0, ()) := by rw [hwh, if_neg (by omega)]
        rw [dv_bn2 hw0, if_pos rfl, dv_bn2 m_rolls, bq, bq]
        have g2 : ∀ z, dv_u (dv_u (dv_u U a 2 (j : Int) (max 0 (W a 2 (j : Int) - ω (j : Int)))) a 2 (9 + (j : Int)) (-1)) a 2 (18 + (j : Int)) (-1) a 2 z = if z = 18 + (j : Int) then -1 else if z = 9 + (j : Int) then -1 else if z = (j : Int) then max 0 (W a 2 (j : Int) - ω (j : Int)) else U a 2 z := fun z => by rw [u_if, u_if, u_if]
        refine Or.inl ⟨_, rfl, ⟨dv_u (dv_u (dv_u U a 2 (j : Int) (max 0 (W a 2 (j : Int) - ω (j : Int)))) a 2 (9 + (j : Int)) (-1)) a 2 (18 + (j : Int)) (-1), j + 1, ?_, by omega, fun b m z h => ?_, fun z hz => ?_, fun d d0 d9 => ⟨?_, ?_, ?_⟩⟩, by dsimp only; omega⟩
        · rw [sq, if_pos ⟨e3, e0⟩, cj]
        · by_cases q : b = a
          · have q2 : m ≠ 2 := fun w => h ⟨q, w⟩
            rw [u_j q2, u_j q2, u_j q2]; exact hf b m z h
          · rw [u_b q, u_b q, u_b q]; exact hf b m z h
        · rw [g2, if_neg (by omega), if_neg (by omega), if_neg (by omega)]; exact hI1 z hz
        · rw [g2, if_neg (show ¬ d = 18 + (j : Int) by omega), if_neg (show ¬ d = 9 + (j : Int) by omega)]
          by_cases q : d = (j : Int)
          · rw [if_pos q, if_pos ⟨by omega, by rw [q]; exact e3⟩, q]
          · rw [if_neg q, (hI2 d d0 d9).1]
            exact yr_st (w := 0) ⟨fun w => ⟨by omega, w.2⟩, fun w => ⟨by omega, w.2⟩⟩
        · rw [g2, if_neg (show ¬ 9 + d = 18 + (j : Int) by omega)]
          by_cases q : d = (j : Int)
          · rw [if_pos (by omega), if_pos ⟨by omega, by rw [q]; exact ⟨e3, e0⟩⟩]
          · rw [if_neg (show ¬ 9 + d = 9 + (j : Int) by omega), if_neg (show ¬ 9 + d = (j : Int) by omega), (hI2 d d0 d9).2.1]
            exact yr_st (w := 0) ⟨fun w => ⟨by omega, w.2⟩, fun w => ⟨by omega, w.2⟩⟩
        · rw [g2]
          by_cases q : d = (j : Int)
          · rw [if_pos (by omega), if_pos ⟨by omega, by rw [q]; exact ⟨e3, e0⟩⟩]
          · rw [if_neg (show ¬ 18 + d = 18 + (j : Int) by omega), if_neg (show ¬ 18 + d = 9 + (j : Int) by omega), if_neg (show ¬ 18 + d = (j : Int) by omega), (hI2 d d0 d9).2.2]
            exact yr_st (w := 0) ⟨fun w => ⟨by omega, w.2⟩, fun w => ⟨by omega, w.2⟩⟩
      · have hw1 : f_X12_isWhole (dv_u U a 2 (j : Int) (max 0 (W a 2 (j : Int) - ω (j : Int)))) a (j : Int) = (1, ()) := by rw [hwh, if_pos (by omega)]
        rw [dv_bn2 hw1, if_neg (by decide), bq]
        have g2 : ∀ z, dv_u U a 2 (j : Int) (max 0 (W a 2 (j : Int) - ω (j : Int))) a 2 z = if z = (j : Int) then max 0 (W a 2 (j : Int) - ω (j : Int)) else U a 2 z := fun z => u_if
        have k' : ∀ d : Int, (d < (j : Int) ∧ W a 2 (9 + d) ≠ -1 ∧ max 0 (W a 2 d - ω d) = 0) ↔ (d < ((j + 1 : Nat) : Int) ∧ W a 2 (9 + d) ≠ -1 ∧ max 0 (W a 2 d - ω d) = 0) := fun d => ⟨fun w => ⟨by omega, w.2⟩, fun w => ⟨by
          by_cases q : d = (j : Int)
          · rw [q] at w; exact absurd w.2.2 e0
          · omega, w.2⟩⟩
        refine Or.inl ⟨_, rfl, ⟨dv_u U a 2 (j : Int) (max 0 (W a 2 (j : Int) - ω (j : Int))), j + 1, ?_, by omega, fun b m z h => ?_, fun z hz => ?_, fun d d0 d9 => ⟨?_, ?_, ?_⟩⟩, by dsimp only; omega⟩
        · rw [sq, if_neg (fun q => e0 q.2), Int.add_zero, cj]
        · by_cases q : b = a
          · rw [u_j (fun w => h ⟨q, w⟩)]; exact hf b m z h
          · rw [u_b q]; exact hf b m z h
        · rw [g2, if_neg (by omega)]; exact hI1 z hz
        · rw [g2]
          by_cases q : d = (j : Int)
          · rw [if_pos q, if_pos ⟨by omega, by rw [q]; exact e3⟩, q]
          · rw [if_neg q, (hI2 d d0 d9).1]
            exact yr_st (w := 0) ⟨fun w => ⟨by omega, w.2⟩, fun w => ⟨by omega, w.2⟩⟩
        · rw [g2, if_neg (show ¬ 9 + d = (j : Int) by omega), (hI2 d d0 d9).2.1]
          exact yr_st (w := 0) (k' d)
        · rw [g2, if_neg (show ¬ 18 + d = (j : Int) by omega), (hI2 d d0 d9).2.2]
          exact yr_st (w := 0) (k' d)
end QTA
section QTB
variable {V V' V0 V1 V2 U U' W W' W0 W1 W2 : dV} {a b c z t k s p x y n u o d jd rk fl lx : Int} {A : Nat → Int} {K K' ω : Int → Int} {φ ψ : Nat → Int → Int} {j m i : Nat}
theorem JX_lx (h : JX A a i V W) (hl : f_X8_forcedLaw V (A 1) = (lx, ())) : (∀ j : Nat, j < 20 → lx ≠ A j) ∧ jd_ok V W (A 13) (A 14) (A i) lx a := by
  obtain ⟨lx', h1, h2⟩ := JX_jd h
  have e : lx' = lx := by rw [h1] at hl; exact congrArg Prod.fst hl
  subst e
  refine ⟨fun j hj => ?_, h2⟩
  obtain ⟨hA, ⟨-, -, -, gk⟩, ⟨l1, l2, l3, l4, -⟩, -⟩ := h
  have gx := (gk 0 (by decide)).2
  have l2 : 0 ≤ V (A 1) 5 0 ∧ V (A 1) 5 0 ≤ 6 := l2
  have hv : f_X8_lawOf V (A 1) (V (A 1) 6 0) = (lx', ()) := by
    unfold f_X8_forcedLaw at h1
    rw [bq, bq2] at h1
    have := congrArg Prod.fst h1
    exact Prod.ext this rfl
  rw [c_lawOf] at hv
  by_cases e : 0 ≤ V (A 1) 6 0 ∧ V (A 1) 6 0 < V (A 1) 5 0
  · rw [if_pos e] at hv
    have hq := congrArg Prod.fst hv
    dsimp only at hq
    have hx := gx (V (A 1) 6 0).toNat (by omega)
    have hc : (((V (A 1) 6 0).toNat : Nat) : Int) = V (A 1) 6 0 := by omega
    rw [hc] at hx
    rw [← hq, show A 1 = A (1 + 0) from rfl, hx]
    exact inj_n hA (by omega) (by omega) (by omega)
  · rw [if_neg e] at hv
    have hq := congrArg Prod.fst hv
    dsimp only at hq
    rw [← hq]
    exact Ne.symm (hA.2 j (by omega))
/-- a YEAR passes for the floor i, in both -/
theorem W_year (h : JX A a i V W) (hl : f_X8_forcedLaw V (A 1) = (lx, ())) (hy : V (A i) 5 0 ≤ 998) : ∃ V' W' t, f_X1_wearAYear V (A i) (A 13) lx = (V', t) ∧ f_X12_yearPasses W a = (W', t) ∧ 0 ≤ t ∧ (∀ b m z, ¬ (b = A i ∧ (m = 2 ∨ m = 3 ∨ m = 4 ∨ m = 5)) → ¬ (b = A 14 ∧ m ≤ 3) → V' b m z = V b m z) ∧ (∀ z, 8 ≤ z → V' (A 14) 1 z = V (A 14) 1 z) ∧ (∀ z, z ≠ 0 → V' (A i) 5 z = V (A i) 5 z) ∧ (∀ b m z, ¬ (b = a ∧ (m = 2 ∨ (22 ≤ m ∧ m ≤ 26) ∨ m = 30)) → W' b m z = W b m z) ∧ (∀ z, 29 ≤ z → W' a 2 z = W a 2 z) ∧ W' a 2 27 = W a 2 27 ∧ (ef9 (V' (A i)) (kf (W' a 2) 0) ∧ kgf (V' (A i))) ∧ V' (A i) 5 0 = V (A i) 5 0 + 1 := by
  obtain ⟨hlx, q1, q2, q3, q4, q5, -, -, q8⟩ := JX_lx h hl
  obtain ⟨hA, -, -, -, ⟨hf, hk⟩, hi⟩ := id h
  have hi38 : i < 38 := by omega
  have hlfl : lx ≠ A i := hlx i (by omega)
  have jfl : A 13 ≠ A i := inj_n hA (by decide) hi38 (by omega)
  obtain ⟨e7, e8, e9, e50, e51, e52, ec⟩ := ef9_n hf
  have n9 := hk.1.1
  -- a carpet's numbers
  have JC : ∀ (U X : dV) (d : Int), 0 ≤ d → d < V (A i) 7 0 → (∀ m z, U (A 13) m z = V (A 13) m z) → (lx ≠ -1 → ∀ m z, U lx m z = V lx m z) → U (A i) 0 d = V (A i) 0 d → U (A i) 1 d = V (A i) 1 d → U (A i) 2 d = V (A i) 2 d → (∀ z, U (A i) 5 z = V (A i) 5 z) → (∀ z, 8 ≤ z → U (A 14) 1 z = V (A 14) 1 z) → (∀ z, X a 2 z = W a 2 z) → jc_ok U X (A 13) (A 14) (A i) lx a d := by
    intro U X d d0 d1 u13 ulx u0 u1 u2 u5 u14 x2
    obtain ⟨r0, r1, r2, -, -⟩ := ec d d0 (by omega)
    have k0 := hk.1.2.2.2 d d0 d1
    have k1 := hk.2.2.1 d d0 d1
    have y0 := hk.2.2.2.2.2.2.1
    have y2 := hk.2.2.2.2.2.2.2.2
    have eX : X a 2 = W a 2 := funext x2
    refine ⟨by rw [u13]; exact q1, q2, q3, q4, ?_, ⟨by omega, by rw [u0, x2]; exact ⟨r0, k0.1⟩, by rw [u1, x2]; exact ⟨r1, by omega, by omega⟩, by rw [u2, x2]; exact ⟨r2, k1.2.2.2⟩, by rw [u5, x2]; exact ⟨e50, y0⟩, by rw [u5, x2]; exact ⟨e52, y2⟩⟩, fun k k8 k23 => by rw [u14 k k8]; exact q8 k k8 k23⟩
    unfold lw_ok
    rw [eX]
    rcases q5 with q5 | ⟨w1, w2, w3⟩
    · exact Or.inl q5
    · refine Or.inr ⟨w1, w2, ?_⟩
      rw [show U lx 0 = V lx 0 from funext (ulx w2 0), show U lx 1 = V lx 1 from funext (ulx w2 1), ulx w2, ulx w2]
      exact w3
  have JV : ∀ (X : dV) (d : Int), 0 ≤ d → d < V (A i) 7 0 → (∀ z, X a 2 z = W a 2 z) → jc_ok V X (A 13) (A 14) (A i) lx a d := fun X d d0 d1 x2 => JC V X d d0 d1 (fun _ _ => rfl) (fun _ _ _ => rfl) rfl rfl rfl (fun _ => rfl) (fun _ _ => rfl) x2
  obtain ⟨ω, hω⟩ : ∃ ω : Int → Int, ω = fun d => if (0 ≤ d ∧ d < V (A i) 7 0) ∧ V (A i) 3 d ≠ -1 then (f_X12_wearsNow W a d).2 else 0 := ⟨_, rfl⟩
  have pl : ∀ d, 0 ≤ d → d < V (A i) 7 0 → V (A i) 3 d ≠ -1 → (-1 ≤ V (A i) 3 d ∧ V (A i) 3 d ≤ 12) ∧ (-1 ≤ V (A i) 4 d ∧ V (A i) 4 d ≤ 12) := fun d d0 d1 d3 => by
    have := (hk.1.2.2.2 d d0 d1).2.resolve_left d3
    omega
  have ωb : ∀ d, 0 ≤ ω d ∧ ω d ≤ 9 := fun d => by
    rw [hω]
    dsimp only
    by_cases e : (0 ≤ d ∧ d < V (A i) 7 0) ∧ V (A i) 3 d ≠ -1
    · rw [if_pos e]
      obtain ⟨⟨d0, d1⟩, d3⟩ := e
      obtain ⟨-, -, -, r3, r4⟩ := ec d d0 (by omega)
      obtain ⟨V', W', y, w1, w2, -, -, w5⟩ := jc_wear (JV W d d0 d1 (fun _ => rfl)) r3 r4 (pl d d0 d1 d3).1 (pl d d0 d1 d3).2
      rw [w2]
      exact w5
    · rw [if_neg e]; decide
  have ωe : ∀ d, 0 ≤ d → d < V (A i) 7 0 → V (A i) 3 d ≠ -1 → ω d = (f_X12_wearsNow W a d).2 := fun d d0 d1 d3 => by
    rw [hω]
    dsimp only
    rw [if_pos ⟨⟨d0, d1⟩, d3⟩]
  -- the class
  obtain ⟨V', cV, hI, v50⟩ := c_year (jd := A 13) (lx := lx) (ω := ω) hk hy q3 (fun U d d0 d1 d3 hU => by
    obtain ⟨h1, h2, -, h4⟩ := hU
    obtain ⟨-, -, -, r3, r4⟩ := ec d d0 (by omega)
    obtain ⟨z2, z3, z4⟩ := h4 d
    rw [if_neg (by omega)] at z2 z3 z4
    have hfj : ∀ (m : Nat) (z : Int), m ≠ 2 → m ≠ 3 → m ≠ 4 → U (A i) m z = V (A i) m z := fun m z m2 m3 m4 => h1 _ m z (fun q => by have := q.2; omega) (fun q => q3 q.1)
    obtain ⟨U', X', y, w1, w2, w3, -, -⟩ := jc_wear (JC U W d d0 d1 (fun m z => h1 _ m z (fun q => jfl q.1) (fun q => q2 q.1)) (fun _ m z => h1 lx m z (fun q => hlfl q.1) (fun q => q4 q.1)) (hfj 0 d (by decide) (by decide) (by decide)) (hfj 1 d (by decide) (by decide) (by decide)) z2 (fun z => hfj 5 z (by decide) (by decide) (by decide)) h2 (fun _ => rfl)) (by rw [z3]; exact r3) (by rw [z4]; exact r4) (by rw [z3]; exact (pl d d0 d1 d3).1) (by rw [z4]; exact (pl d d0 d1 d3).2)
    refine ⟨U', ?_, w3⟩
    rw [ωe d d0 d1 d3, w2, w1]) ωb
  obtain ⟨I1, I2, -, I4⟩ := hI
  -- the reference
  have hwW : ∀ (U : dV) (d : Int), 0 ≤ d → d < W a 2 69 → W a 2 (9 + d) ≠ -1 → ym_fr a W U → ∃ U' : dV, f_X12_wearsNow U a d = (U', ω d) ∧ te_fr a U U' := by
    intro U d d0 d1 d3 hU
    have d1' : d < V (A i) 7 0 := by omega
    obtain ⟨-, -, -, r3, r4⟩ := ec d d0 (by omega)
    have d3' : V (A i) 3 d ≠ -1 := by rw [r3]; exact d3
    have u2 : ∀ z, U a 2 z = W a 2 z := fun z => hU a 2 z (fun q => absurd q.2 (by omega))
    obtain ⟨V1, U', y, w1, w2, -, w4, -⟩ := jc_wear (JV U d d0 d1' u2) (by rw [u2]; exact r3) (by rw [u2]; exact r4) (pl d d0 d1' d3').1 (pl d d0 d1' d3').2
    obtain ⟨V2, X', y2, x1, x2, -, -, -⟩ := jc_wear (JV W d d0 d1' (fun _ => rfl)) r3 r4 (pl d d0 d1' d3').1 (pl d d0 d1' d3').2
    have ey : y = y2 := by
      rw [w1] at x1
      exact congrArg Prod.snd x1
    refine ⟨U', ?_, w4⟩
    rw [ωe d d0 d1' d3', x2, w2, ey]
  have hp : ∀ d, 0 ≤ d → d < W a 2 69 → (0 ≤ ω d ∧ ω d ≤ 9) ∧ 0 ≤ W a 2 d ∧ W a 2 d ≤ 9 := fun d d0 d1 => by
    obtain ⟨-, -, r2, -, -⟩ := ec d d0 (by omega)
    rw [← r2]
    exact ⟨ωb d, (hk.2.2.1 d d0 (by omega)).2.2.2⟩
  have hyr := hk.2.2.2.2.2.2.1
  have YR : ∀ U : dV, ym_fr a W U → (∀ d, 0 ≤ d → d < W a 2 69 → W a 2 (9 + d) ≠ -1 → U a 30 d = ω d) → ∃ W' : dV, dv_lp f_X12_yearPasses_43b (U, a, 0, 0) = Sum.inr (W', qs (fun i => if ymG (W a 2) ω (i : Int) then 1 else 0) (W a 2 69).toNat) ∧ (∀ b m z, ¬ (b = a ∧ m = 2) → W' b m z = U b m z) ∧ W' a 2 28 = W a 2 28 + 1 ∧ ymI (W a 2) ω (W a 2 69) (fun z => if z = 28 then W a 2 28 else W' a 2 z) := by
    intro U hU h30
    have u2 : U a 2 = W a 2 := funext fun z => hU a 2 z (fun q => absurd q.2 (by omega))
    have := m_year2 (W := U) (a := a) (ω := ω) (by rw [u2]; omega) (by rw [u2]; omega) (fun d d0 d1 d3 => by
      rw [u2] at d1 d3 ⊢
      exact ⟨h30 d d0 d1 d3, hp d d0 d1⟩)
    rw [u2] at this
    exact this
  obtain ⟨W1, y1, y2, y3⟩ := m_year1 (W := W) (a := a) (ω := ω) (by omega) hwW (fun U hU h30 => by
    obtain ⟨W', w, -⟩ := YR U hU h30
    exact ⟨_, w⟩)
  obtain ⟨W', x1, x2, x3, x4, x5⟩ := YR W1 y2 y3
  rw [x1] at y1
  have eW : f_X12_yearPasses W a = (W', qs (fun i => if ymG (W a 2) ω (i : Int) then 1 else 0) (W a 2 69).toNat) := by
    unfold f_X12_yearPasses
    exact (Sum.inr.inj y1).symm
  have ecnt : qs (fun v : Nat => if yrG (V (A i)) ω (v : Int) then (1 : Int) else 0) (V (A i) 7 0).toNat = qs (fun i => if ymG (W a 2) ω (i : Int) then 1 else 0) (W a 2 69).toNat := by
    rw [← e7]
    refine qs_c fun q hq => ?_
    obtain ⟨-, -, r2, r3, -⟩ := ec (q : Int) (by omega) (by omega)
    refine yr_st (w := 0) ?_
    unfold yrG ymG
    rw [r2, r3]
  have hb := qs_b (f := fun i : Nat => if ymG (W a 2) ω (i : Int) then (1 : Int) else 0) (n := (W a 2 69).toNat) (k := 1) (fun i _ => by split <;> omega)
  have vI : ∀ (b : Int) (m : Nat) (z : Int), ¬ (b = A i ∧ m = 5) → dv_u V' (A i) 5 0 (V (A i) 5 0) b m z = V' b m z := fun b m z hq => by
    by_cases q : b = A i
    · exact u_j (fun w => hq ⟨q, w⟩)
    · exact u_b q
  have F1 : ∀ b m z, ¬ (b = A i ∧ (m = 2 ∨ m = 3 ∨ m = 4 ∨ m = 5)) → ¬ (b = A 14 ∧ m ≤ 3) → V' b m z = V b m z := fun b m z n1 n2 => by
    rw [← vI b m z (fun q => n1 ⟨q.1, by omega⟩)]
    exact I1 b m z (fun q => n1 ⟨q.1, by omega⟩) n2
  have F5 : ∀ z, z ≠ 0 → V' (A i) 5 z = V (A i) 5 z := fun z hz => by
    have := I1 (A i) 5 z (fun q => absurd q.2 (by decide)) (fun q => q3 q.1)
    rw [u_i hz] at this
    exact this
  have w27 : ∀ z, 27 ≤ z → z ≠ 28 → W' a 2 z = W a 2 z := fun z z1 z2 => by
    have := x4 z z1
    dsimp only at this
    rw [if_neg z2] at this
    exact this
  have Fj : ∀ (m : Nat) (z : Int), m ≠ 2 → m ≠ 3 → m ≠ 4 → m ≠ 5 → V' (A i) m z = V (A i) m z := fun m z m2 m3 m4 m5 => F1 _ m z (fun q => by have := q.2; omega) (fun q => q3 q.1)
  have I4' : ∀ z, (V' (A i) 2 z = if (0 ≤ z ∧ z < V (A i) 7 0) ∧ V (A i) 3 z ≠ -1 then max 0 (V (A i) 2 z - ω z) else V (A i) 2 z) ∧ (V' (A i) 3 z = if (0 ≤ z ∧ z < V (A i) 7 0) ∧ V (A i) 3 z ≠ -1 ∧ max 0 (V (A i) 2 z - ω z) = 0 then -1 else V (A i) 3 z) ∧ V' (A i) 4 z = if (0 ≤ z ∧ z < V (A i) 7 0) ∧ V (A i) 3 z ≠ -1 ∧ max 0 (V (A i) 2 z - ω z) = 0 then -1 else V (A i) 4 z := fun z => by
    obtain ⟨h2, h3, h4⟩ := I4 z
    rw [vI _ _ _ (fun q => absurd q.2 (by decide))] at h2 h3 h4
    exact ⟨h2, h3, h4⟩
  refine ⟨V', W', _, cV, by rw [eW, ecnt], by rw [ecnt]; exact hb.1, F1, fun z hz => ?_, F5, fun b m z hn => ?_, fun z hz => w27 z (by omega) (by omega), w27 27 (by decide) (by decide), ⟨ef9_of ⟨?_, ?_, ?_, ?_, ?_, ?_, fun d d0 d9 => ?_⟩, kg_sub hk (fun d d0 d1 => ⟨Fj 0 d (by decide) (by decide) (by decide) (by decide), Fj 1 d (by decide) (by decide) (by decide) (by decide), ?_, ?_⟩) (Fj 7 0 (by decide) (by decide) (by decide) (by decide)) (Fj 8 0 (by decide) (by decide) (by decide) (by decide)) (Fj 9 0 (by decide) (by decide) (by decide) (by decide)) ?_ ?_ (F5 1 (by decide)) (F5 2 (by decide))⟩, v50⟩
  · have := I2 z hz
    rw [vI _ _ _ (fun q => absurd q.2 (by decide))] at this
    exact this
  · rw [x2 b m z (fun q => hn ⟨q.1, Or.inl q.2⟩)]
    exact y2 b m z (fun q => hn ⟨q.1, Or.inr q.2⟩)
  · rw [Fj 7 0 (by decide) (by decide) (by decide) (by decide), w27 69 (by decide) (by decide), e7]
  · rw [Fj 8 0 (by decide) (by decide) (by decide) (by decide), w27 67 (by decide) (by decide), e8]
  · rw [Fj 9 0 (by decide) (by decide) (by decide) (by decide), w27 68 (by decide) (by decide), e9]
  · rw [v50, x3, e50]
  · rw [F5 1 (by decide), w27 65 (by decide) (by decide), e51]
  · rw [F5 2 (by decide), w27 66 (by decide) (by decide), e52]
  · obtain ⟨r0, r1, r2, r3, r4⟩ := ec d d0 d9
    obtain ⟨h2, h3, h4⟩ := I4' d
    obtain ⟨k2, k3, k4⟩ := x5 d d0 d9
    dsimp only at k2 k3 k4
    rw [if_neg (show ¬ d = 28 by omega)] at k2
    rw [if_neg (show ¬ 9 + d = 28 by omega)] at k3
    rw [if_neg (show ¬ 18 + d = 28 by omega)] at k4
    refine ⟨by rw [Fj 0 d (by decide) (by decide) (by decide) (by decide), w27 _ (by omega) (by omega), r0], by rw [Fj 1 d (by decide) (by decide) (by decide) (by decide), w27 _ (by omega) (by omega), r1], ?_, ?_, ?_⟩
    · rw [h2, k2, r2, r3]
      exact yr_st (w := 0) ⟨fun q => ⟨by omega, q.2⟩, fun q => ⟨⟨d0, by omega⟩, q.2⟩⟩
    · rw [h3, k3, r2, r3]
      exact yr_st (w := 0) ⟨fun q => ⟨by omega, q.2⟩, fun q => ⟨⟨d0, by omega⟩, q.2⟩⟩
    · rw [h4, k4, r2, r3, r4]
      exact yr_st (w := 0) ⟨fun q => ⟨by omega, q.2⟩, fun q => ⟨⟨d0, by omega⟩, q.2⟩⟩
  · have hs := (hk.2.2.1 d d0 d1).2.2.2
    have ho := ωb d
    rw [(I4' d).1]
    split <;> omega
  · obtain ⟨-, h3, h4⟩ := I4' d
    by_cases q : (0 ≤ d ∧ d < V (A i) 7 0) ∧ V (A i) 3 d ≠ -1 ∧ max 0 (V (A i) 2 d - ω d) = 0
    · rw [if_pos q] at h3; exact Or.inr h3
    · rw [if_neg q] at h3 h4; exact Or.inl ⟨h3, h4⟩
  · rw [Fj 10 0 (by decide) (by decide) (by decide) (by decide)]; exact hk.2.2.2.2.2.1
  · rw [v50]; omega
theorem D_pass (h : RR A a V W) : ∃ V' W' t, f_X11_doPass V (A 0) = (V', t) ∧ f_X12_passesKept W a = (W', t) ∧ RR A a V' W' ∧ d_ans t ∧ DF A a V W V' W' := by
  have hA := h.1
  obtain ⟨g0, g1, g10, -, g9, -⟩ := RR_G h
  obtain ⟨kk, e7, e8, e9, e10, e50, e51, e52, ec⟩ := RR_n h
  have hyr := kk.2.2.2.2.2.2.1
  by_cases e : V (A 4) 5 0 < 999
  case neg =>
    refine ⟨V, W, -3, ?_, ?_, h, Or.inr (Or.inr (Or.inr rfl)), DF_r⟩
    · unfold f_X11_doPass
      rw [bq, g0, bq, g1, bq, if_neg e]
    · unfold f_X12_passesKept
      rw [bq, if_neg (by omega)]
  case pos =>
    obtain ⟨V1, W1, r1, r2, r3, r4, R⟩ := RR_note (k := 3) h (by decide)
    obtain ⟨lx, hlx, -⟩ := JX_jd (RR_JX R)
    have v1 : ∀ {q : Nat}, q < 38 → q ≠ 15 → ∀ m z, V1 (A q) m z = V (A q) m z := fun hq hn m z => r3 _ m z (fun w => inj_n hA hq (by decide) hn w.1)
    obtain ⟨V2, W2, t, y1, y2, y3, y4, y5, y6, y7, y8, y9, y10, y11⟩ := W_year (RR_JX R) hlx (by rw [v1 (by decide) (by decide)]; omega)
    have R2 : RR A a V2 W2 := by
      obtain ⟨-, -, -, -, -, ⟨p1, p2, p3⟩, -⟩ := id R
      have f15 : ∀ m z, V2 (A 15) m z = V1 (A 15) m z := fun m z => y4 _ m z (fun q => inj_n hA (by decide) (by decide) (by decide) q.1) (fun q => inj_n hA (by decide) (by decide) (by decide) q.1)
      have Fj : ∀ (m : Nat) (z : Int), m ≠ 2 → m ≠ 3 → m ≠ 4 → m ≠ 5 → V2 (A 4) m z = V1 (A 4) m z := fun m z m2 m3 m4 m5 => y4 _ m z (fun q => by have := q.2; omega) (fun q => inj_n hA (by decide) (by decide) (by decide) q.1)
      have w33 : W2 a 33 0 = W1 a 33 0 := y7 a 33 0 (fun q => absurd q.2 (by omega))
      refine RR_act R (fun q m z hq hm hL => y4 _ m z (fun w => ?_) (fun w => ?_)) (fun m z hm => y7 a m z (fun w => ?_)) y5 (fun z hz => y8 z (by omega)) ⟨ef_10 y10.1 (by
        show V2 (A 4) 10 0 = W2 a 2 (0 + 27)
        rw [Fj 10 0 (by decide) (by decide) (by decide) (by decide), Int.zero_add, y9]
        exact (RR_n R).2.2.2.2.1), y10.2⟩ ⟨by rw [f15, w33]; exact p1, by rw [w33]; exact p2, fun u u0 u1 => ?_⟩
      · have := hA.1 q 4 hq (by decide) w.1
        subst this
        cases hL
      · have := hA.1 q 14 hq (by decide) w.1
        subst this
        cases hL
      · unfold M_a at hm
        simp only [Bool.or_eq_false_iff, Bool.and_eq_false_iff, beq_eq_false_iff_ne, decide_eq_false_iff_not, ne_eq] at hm
        omega
      · rw [w33] at u1
        rw [show W2 a 31 = W1 a 31 from funext fun z => y7 a 31 z (fun q => absurd q.2 (by omega)), show V2 (A 15) 0 = V1 (A 15) 0 from funext fun z => f15 0 z]
        exact ⟨(p3 u u0 u1).1, mvf_eq (fun d => ⟨Fj 0 d (by decide) (by decide) (by decide) (by decide), Fj 1 d (by decide) (by decide) (by decide) (by decide), fun hd => y6 d hd⟩) (Fj 7 0 (by decide) (by decide) (by decide) (by decide)) (Fj 8 0 (by decide) (by decide) (by decide) (by decide)) (Fj 9 0 (by decide) (by decide) (by decide) (by decide)) (p3 u u0 u1).2⟩
    refine ⟨V2, W2, t, ?_, ?_, R2, Or.inl y3, DF_t (DF_n hA r3 r4) ⟨fun b m z p q _ => y4 b m z (fun w => p ⟨w.1, by omega⟩) q, y6, fun b m z p => y7 b m z (fun q => p ⟨q.1, by omega⟩), y8⟩⟩
    · have q0 : V1 (A 0) 0 0 = A 1 := by rw [v1 (by decide) (by decide), g0]
      have q1 : V1 (A 1) 0 0 = A 4 := by rw [v1 (by decide) (by decide), g1]
      have q9 : V1 (A 0) 9 0 = A 13 := by rw [v1 (by decide) (by decide), g9]
      unfold f_X11_doPass
      rw [bq, g0, bq, g1, bq, if_pos e, bq, g10, bq, bq, g1, dv_bn2 r1, bq, q0, bq, q1, bq, q9, bq, dv_bn2 hlx, dv_bn2 y1]
    · unfold f_X12_passesKept
      rw [bq, if_pos (by omega), dv_bn2 r2, dv_bn2 y2]
theorem L_pass (h : RR A a V W) : ∃ V' W' u, f_X11_pass V (A 0) = (V', u) ∧ f_X12_pass W a = (W', u) ∧ RR A a V' W' := by
  obtain ⟨V1, W1, t, e1, e2, R, ht, -⟩ := D_pass h
  obtain ⟨V2, W2, r1, r2, r3⟩ := RR_goodOr R ht
  exact ⟨V2, W2, t, by unfold f_X11_pass; rw [dv_bn2 e1, dv_bn2 r1], by unfold f_X12_pass; rw [dv_bn2 e2, dv_bn2 r2], r3⟩
end QTB
