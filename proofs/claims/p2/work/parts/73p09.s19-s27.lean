section QTC
variable {V V' V0 V1 V2 U W W' W0 W1 W2 : dV} {a b c z t k s p x y n u o r fl dn lt : Int} {A : Nat → Int} {w : Int → Int} {φ : Nat → Int → Int}
def bar (φ : Nat → Int → Int) : Int := φ 8 0 * φ 9 0 - qs (sqf φ) (φ 7 0).toNat
theorem bar_b (g : kgf φ) : 0 ≤ bar φ ∧ bar φ ≤ 144 := by
  refine ⟨kg_bare g, ?_⟩
  have h := qs_b (f := sqf φ) (n := (φ 7 0).toNat) (k := 144) (fun i hi => sqf_b g.1 (by omega))
  have hm := Int.mul_le_mul (a := φ 8 0) (b := φ 9 0) (c := 12) (d := 12) (by have := g.1.2.1; omega) (by have := g.1.2.2.1; omega) (by have := g.2.2.2.2.1; omega) (by decide)
  unfold bar
  omega
/-- the words of orders -/
def wo (φ : Nat → Int → Int) (dn lt k : Int) : Int := if k = 0 then φ 5 0 else if k = 1 then dn else if k = 2 then lt else if k = 3 then bar φ else if k = 4 then φ 10 0 else if k < 14 then (if 0 ≤ k - 5 ∧ k - 5 < φ 7 0 then φ 2 (k - 5) else -1) else if k < 23 then (if k - 14 < φ 7 0 then (if φ 3 (k - 14) = -1 then 0 else 1) else -1) else 0
theorem wo_p (c0 : 0 ≤ c) (c9 : c < 9) : wo φ dn lt (5 + c) = if 0 ≤ c ∧ c < φ 7 0 then φ 2 c else -1 := by
  unfold wo
  rw [if_neg (by omega), if_neg (by omega), if_neg (by omega), if_neg (by omega), if_neg (by omega), if_pos (by omega), show 5 + c - 5 = c by omega]
theorem wo_l (c0 : 0 ≤ c) (c9 : c < 9) : wo φ dn lt (14 + c) = if c < φ 7 0 then (if φ 3 c = -1 then 0 else 1) else -1 := by
  unfold wo
  rw [if_neg (by omega), if_neg (by omega), if_neg (by omega), if_neg (by omega), if_neg (by omega), if_neg (by omega), if_pos (by omega), show 14 + c - 14 = c by omega]
theorem wo_b (g : kgf φ) (hd : 0 ≤ dn ∧ dn ≤ 1000) (hl : -3 ≤ lt ∧ lt ≤ 1000) (k : Int) : -2147483648 ≤ wo φ dn lt k ∧ wo φ dn lt k ≤ 2147483647 := by
  have hb := bar_b g
  obtain ⟨-, -, gs, -, -, gp, gy, -, -⟩ := g
  unfold wo
  by_cases e0 : k = 0
  · rw [if_pos e0]; omega
  rw [if_neg e0]
  by_cases e1 : k = 1
  · rw [if_pos e1]; omega
  rw [if_neg e1]
  by_cases e2 : k = 2
  · rw [if_pos e2]; omega
  rw [if_neg e2]
  by_cases e3 : k = 3
  · rw [if_pos e3]; omega
  rw [if_neg e3]
  by_cases e4 : k = 4
  · rw [if_pos e4]; omega
  rw [if_neg e4]
  by_cases e5 : k < 14
  · rw [if_pos e5]
    by_cases q : 0 ≤ k - 5 ∧ k - 5 < φ 7 0
    · rw [if_pos q]
      have := (gs (k - 5) q.1 q.2).2.2.2
      omega
    · rw [if_neg q]; decide
  rw [if_neg e5]
  by_cases e6 : k < 23
  · rw [if_pos e6]
    by_cases q : k - 14 < φ 7 0
    · rw [if_pos q]
      by_cases q1 : φ 3 (k - 14) = -1
      · rw [if_pos q1]; decide
      · rw [if_neg q1]; decide
    · rw [if_neg q]; decide
  · rw [if_neg e6]; decide
/-- what setting the words changes -/
def w1_fr (r : Int) (V V' : dV) : Prop := ∀ b m z, ¬ (b = r ∧ m = 1) → V' b m z = V b m z
theorem w1_u {i : Int} : w1_fr r V (dv_u V r 1 i y) := fun b m z h => by
  unfold dv_u; rw [if_neg (fun e => h ⟨e.1, e.2.1⟩)]
theorem w1_t (h : w1_fr r V V') (k : w1_fr r V' V1) : w1_fr r V V1 := fun b m z q => (k b m z q).trans (h b m z q)
theorem c_owords (hf : fl ≠ r) (g : kgf (V fl)) : ∃ V', f_X6_setOrderWords V r fl = (V', 0) ∧ w1_fr r V V' ∧ ∀ k, 0 ≤ k → k < 23 → V' r 1 k = wo (V fl) (V r 1 1) (V r 1 2) k := by
  have L : ∀ V1 : dV, w1_fr r V V1 → (∀ k, 0 ≤ k → k < 5 → V1 r 1 k = wo (V fl) (V r 1 1) (V r 1 2) k) → ∃ V' : dV, dv_lp f_X6_setOrderWords_34b (V1, r, fl, 0) = (V', 0) ∧ w1_fr r V V' ∧ ∀ k, 0 ≤ k → k < 23 → V' r 1 k = wo (V fl) (V r 1 1) (V r 1 2) k := by
    intro V1 hV1 h5
    refine dv_inv (P := fun q => ∃ (U : dV) (j : Int), q = (U, r, fl, j) ∧ 0 ≤ j ∧ j ≤ 9 ∧ w1_fr r V U ∧ (∀ k, 0 ≤ k → k < 5 → U r 1 k = wo (V fl) (V r 1 1) (V r 1 2) k) ∧ ∀ c, 0 ≤ c → c < j → U r 1 (5 + c) = wo (V fl) (V r 1 1) (V r 1 2) (5 + c) ∧ U r 1 (14 + c) = wo (V fl) (V r 1 1) (V r 1 2) (14 + c)) (Q := fun q => ∃ V' : dV, q = (V', 0) ∧ w1_fr r V V' ∧ ∀ k, 0 ≤ k → k < 23 → V' r 1 k = wo (V fl) (V r 1 1) (V r 1 2) k) (m := fun q => (9 - q.2.2.2).toNat) ?_ _ ⟨V1, 0, rfl, by decide, by decide, hV1, h5, fun c c0 c1 => absurd c1 (by omega)⟩
    rintro q ⟨U, j, rfl, j0, j9, hU, h5, hc⟩
    have uf : ∀ m z, U fl m z = V fl m z := fun m z => hU fl m z (fun q => hf q.1)
    rw [f_X6_setOrderWords_34e]
    unfold f_X6_setOrderWords_34c f_X6_setOrderWords_65 f_X6_setOrderWords_99
    by_cases e : 9 ≤ j
    · rw [if_pos e]
      refine Or.inr ⟨_, rfl, U, rfl, hU, fun k k0 k1 => ?_⟩
      by_cases q5 : k < 5
      · exact h5 k k0 q5
      · by_cases q14 : k < 14
        · have := (hc (k - 5) (by omega) (by omega)).1
          rw [show 5 + (k - 5) = k by omega] at this; exact this
        · have := (hc (k - 14) (by omega) (by omega)).2
          rw [show 14 + (k - 14) = k by omega] at this; exact this
    · rw [if_neg e, bq]
      have FIN : ∀ v1 v2, v1 = wo (V fl) (V r 1 1) (V r 1 2) (5 + j) → v2 = wo (V fl) (V r 1 1) (V r 1 2) (14 + j) → (∃ t : dV × Int × Int × Int, (Sum.inl (dv_u (dv_u U r 1 (5 + j) v1) r 1 (14 + j) v2, r, fl, j + 1) : Sum (dV × Int × Int × Int) dR) = Sum.inl t ∧ (∃ (U : dV) (j : Int), t = (U, r, fl, j) ∧ 0 ≤ j ∧ j ≤ 9 ∧ w1_fr r V U ∧ (∀ k, 0 ≤ k → k < 5 → U r 1 k = wo (V fl) (V r 1 1) (V r 1 2) k) ∧ ∀ c, 0 ≤ c → c < j → U r 1 (5 + c) = wo (V fl) (V r 1 1) (V r 1 2) (5 + c) ∧ U r 1 (14 + c) = wo (V fl) (V r 1 1) (V r 1 2) (14 + c)) ∧ (9 - t.2.2.2).toNat < (9 - j).toNat) := by
        intro v1 v2 e1 e2
        refine ⟨_, rfl, ⟨_, j + 1, rfl, by omega, by omega, w1_t (w1_t hU w1_u) w1_u, fun k k0 k5 => ?_, fun c c0 c1 => ?_⟩, by dsimp only; omega⟩
        · rw [u_i (by omega), u_i (by omega)]; exact h5 k k0 k5
        · rw [u_if, u_if, u_if, u_if]
          by_cases q : c = j
          · subst q
            rw [if_neg (by omega), if_pos rfl, if_pos rfl]; exact ⟨e1, e2⟩
          · rw [if_neg (by omega), if_neg (by omega), if_neg (by omega), if_neg (by omega)]; exact hc c c0 (by omega)
      have gu : ∀ v1 m z, dv_u U r 1 (5 + j) v1 fl m z = V fl m z := fun v1 m z => by rw [u_b hf, uf]
      by_cases q : 0 ≤ j ∧ j < V fl 7 0
      · have hV : f_X1_has U fl j = (1, ()) := by rw [q_has, uf, if_pos q]
        have hV2 : f_X1_has (dv_u U r 1 (5 + j) (V fl 2 j)) fl j = (1, ()) := by rw [q_has, gu, if_pos q]
        rw [dv_bn2 hV, if_neg (by decide), bq, uf, bq, bq, dv_bn2 hV2, if_pos (by decide)]
        by_cases q3 : V fl 3 j = -1
        · have lV : f_X1_isLaid (dv_u U r 1 (5 + j) (V fl 2 j)) fl j = (0, ()) := by rw [q_isLaid, gu, gu, if_neg (fun w => w.2.2 q3)]
          rw [dv_bn2 lV, if_pos rfl, bq, bq]
          exact Or.inl (FIN _ _ (by rw [wo_p j0 (by omega), if_pos q]) (by rw [wo_l j0 (by omega), if_pos q.2, if_pos q3]))
        · have lV : f_X1_isLaid (dv_u U r 1 (5 + j) (V fl 2 j)) fl j = (1, ()) := by rw [q_isLaid, gu, gu, if_pos ⟨q.1, q.2, q3⟩]
          rw [dv_bn2 lV, if_neg (by decide), bq, bq]
          exact Or.inl (FIN _ _ (by rw [wo_p j0 (by omega), if_pos q]) (by rw [wo_l j0 (by omega), if_pos q.2, if_neg q3]))
      · have hV : f_X1_has U fl j = (0, ()) := by rw [q_has, uf, if_neg q]
        have hV2 : f_X1_has (dv_u U r 1 (5 + j) (-1)) fl j = (0, ()) := by rw [q_has, gu, if_neg q]
        rw [dv_bn2 hV, if_pos rfl, bq, bq, dv_bn2 hV2, if_neg (fun w => w rfl), bq, bq]
        exact Or.inl (FIN _ _ (by rw [wo_p j0 (by omega), if_neg q]) (by rw [wo_l j0 (by omega), if_neg (by omega)]))
  unfold f_X6_setOrderWords
  have hB : f_X1_bareCells (dv_u V r 1 0 (V fl 5 0)) fl = (bar (V fl), ()) := by
    have e : dv_u V r 1 0 (V fl 5 0) fl = V fl := funext fun m => funext fun z => u_b hf
    rw [q_bareCells (by rw [e]; exact g.1), e]
    rfl
  rw [bq, bq, dv_bn2 hB, bq, bq, bq, u_b hf, u_b hf]
  refine L _ (w1_t (w1_t w1_u w1_u) w1_u) (fun k k0 k5 => ?_)
  unfold wo
  rw [u_if, u_if, u_if]
  have hk : k = 0 ∨ k = 1 ∨ k = 2 ∨ k = 3 ∨ k = 4 := by omega
  rcases hk with rfl | rfl | rfl | rfl | rfl <;> rfl
/-- what the words are worth in the reference -/
def ow (a : Int) (w : Int → Int) (V : dV) : Prop := ∀ V' : dV, (∀ z, V' a 2 z = V a 2 z) → V' a 27 0 = V a 27 0 → V' a 28 0 = V a 28 0 → (∀ k, 0 ≤ k → k ≤ 8 → f_X12_orderValue V' a 14 k = (w (5 + k), ())) ∧ (∀ k, 0 ≤ k → k ≤ 8 → f_X12_orderValue V' a 20 k = (w (14 + k), ())) ∧ ∀ c k, 15 ≤ c → c ≤ 19 → f_X12_orderValue V' a c k = (w (c - 15), ())
theorem ow_c (h : ow a w V) (h2 : ∀ z, V' a 2 z = V a 2 z) (h7 : V' a 27 0 = V a 27 0) (h8 : V' a 28 0 = V a 28 0) : ow a w V' := fun V1 k2 k7 k8 => h V1 (fun z => (k2 z).trans (h2 z)) (k7.trans h7) (k8.trans h8)
theorem ow_ex (h : ow a w V) : ex_ow a w V := fun V' f => h V' (fun z => f a 2 z (fun q => absurd q.2 (by decide))) (f a 27 0 (fun q => absurd q.2 (by decide))) (f a 28 0 (fun q => absurd q.2 (by decide)))
theorem RR_ow (h : RR A a V W) : ow a (wo (V (A 4)) (W a 27 0) (W a 28 0)) W := by
  obtain ⟨kk, e7, e8, e9, e10, e50, e51, e52, ec⟩ := RR_n h
  have e := h.2.2.1.1.1
  intro W' h2 h7 h8
  have eW : W' a 2 = W a 2 := funext h2
  refine ⟨fun k k0 k8 => ?_, fun k k0 k8 => ?_, fun c k c0 c1 => ?_⟩
  · rw [wo_p k0 (by omega)]
    unfold f_X12_orderValue
    rw [if_pos rfl, bq2, q_isCarpet, h2]
    dsimp only
    by_cases q : 0 ≤ k ∧ k < W a 2 69
    · rw [if_pos q, if_neg (by decide), bq, bq, h2, if_pos (by omega), Int.zero_add]
      rw [(ec k k0 (by omega)).2.2.1]
    · rw [if_neg q, if_pos rfl, if_neg (by omega)]
  · rw [wo_l k0 (by omega)]
    unfold f_X12_orderValue
    rw [if_neg (by decide), if_neg (by decide), if_neg (by decide), if_neg (by decide), if_neg (by decide), if_neg (by decide), if_pos rfl, bq2, q_isCarpet, h2]
    dsimp only
    by_cases q : 0 ≤ k ∧ k < W a 2 69
    · rw [if_pos q, if_pos (by decide), bq2, q_mLaid, h2, if_pos (show k < V (A 4) 7 0 by omega), (ec k k0 (by omega)).2.2.2.1]
      dsimp only
      by_cases q1 : W a 2 (9 + k) = -1
      · rw [if_pos q1, if_pos rfl]
      · rw [if_neg q1, if_neg (by decide)]
    · rw [if_neg q, if_neg (fun w => w rfl), if_neg (by omega)]
  · have hc : c = 15 ∨ c = 16 ∨ c = 17 ∨ c = 18 ∨ c = 19 := by omega
    unfold f_X12_orderValue
    rcases hc with rfl | rfl | rfl | rfl | rfl
    · rw [if_neg (by decide), if_pos rfl, bq, h2, ← e50]; rfl
    · rw [if_neg (by decide), if_neg (by decide), if_pos rfl, bq, h7]; rfl
    · rw [if_neg (by decide), if_neg (by decide), if_neg (by decide), if_pos rfl, bq, h8]; rfl
    · rw [if_neg (by decide), if_neg (by decide), if_neg (by decide), if_neg (by decide), if_pos rfl, q_bareMany, eW, bq2]
      have hq := ef_sqf (φ := V (A 4)) e kk.1
      have k8 : V (A 4) 8 0 = kf (W a 2) 0 8 0 := e.2.2.2.1
      have k9 : V (A 4) 9 0 = kf (W a 2) 0 9 0 := e.2.2.2.2.1
      dsimp only
      rw [← k8, ← k9, ← hq]
      rfl
    · rw [if_neg (by decide), if_neg (by decide), if_neg (by decide), if_neg (by decide), if_neg (by decide), if_pos rfl, bq, h2, ← e10]; rfl
end QTC
section QTD
variable {V V' V0 V1 V2 U U1 W W' W0 W1 W2 : dV} {a c z t k s p q x y n u o r fl B P i j m m' live sn τ : Int} {A : Nat → Int} {w cd vl X M : Int → Int} {S T S0 S1 S2 : dn}
/-- what going along may change -/
def ga_fr (a : Int) (V V' : dV) : Prop := ∀ b m z, ¬ (b = a ∧ (m = 22 ∨ m = 24 ∨ m = 49 ∨ m = 51 ∨ m = 52 ∨ m = 53)) → V' b m z = V b m z
theorem ga_r : ga_fr a V V := fun _ _ _ _ => rfl
theorem ga_t (h : ga_fr a V V') (k : ga_fr a V' V1) : ga_fr a V V1 := fun b m z q => (k b m z q).trans (h b m z q)
theorem ga_e (h : ex_fr a V V') : ga_fr a V V' := fun b m z q => h b m z (fun w => q ⟨w.1, by omega⟩)
theorem ga_u {m : Nat} {i : Int} (hm : m = 22 ∨ m = 24 ∨ m = 49 ∨ m = 51 ∨ m = 52 ∨ m = 53) : ga_fr a V (dv_u V a m i y) := fun b m' z q => by
  unfold dv_u; rw [if_neg (fun e => q ⟨e.1, by omega⟩)]
/-- a text of orders in the reference -/
def gx (cd vl w : Int → Int) (a B : Int) (V : dV) : Prop := (∀ i, 0 ≤ i → cd i = if B + i < V a 23 0 then V a 2 (80 + (B + i)) else 0) ∧ (∀ i, 0 ≤ i → vl i = V a 2 (2880 + (B + i))) ∧ V a 25 0 = 1 ∧ ow a w V
theorem gx_f (h : gx cd vl w a B V) (f : ga_fr a V V') : gx cd vl w a B V' := by
  obtain ⟨h1, h2, h3, h4⟩ := h
  have k : ∀ j z, j ≠ 22 → j ≠ 24 → j ≠ 49 → j ≠ 51 → j ≠ 52 → j ≠ 53 → V' a j z = V a j z := fun j z n1 n2 n3 n4 n5 n6 => f a j z (fun q => by have := q.2; omega)
  have k2 : ∀ z, V' a 2 z = V a 2 z := fun z => k 2 z (by decide) (by decide) (by decide) (by decide) (by decide) (by decide)
  refine ⟨fun i hi => ?_, fun i hi => ?_, ?_, ow_c h4 k2 (k 27 0 (by decide) (by decide) (by decide) (by decide) (by decide) (by decide)) (k 28 0 (by decide) (by decide) (by decide) (by decide) (by decide) (by decide))⟩
  · rw [k 23 0 (by decide) (by decide) (by decide) (by decide) (by decide) (by decide), k2]; exact h1 i hi
  · rw [k2]; exact h2 i hi
  · rw [k 25 0 (by decide) (by decide) (by decide) (by decide) (by decide) (by decide)]; exact h3
theorem gx_ex (h : gx cd vl w a B V) : ex_cx 1 cd vl w a B V := ⟨h.1, h.2.1, h.2.2.1, fun q => absurd q (by decide), fun _ => ow_ex h.2.2.2⟩
/-- one of the sums -/
theorem go_97 (hS : D_sum 1 cd vl 8 p q S) (p0 : 0 ≤ p) (hx : gx cd vl w a B U) (hg : U a 22 0 = B + p) (hw : ∀ k, -2147483648 ≤ w k ∧ w k ≤ 2147483647) : ∃ V' : dV, f_X12_goesAlong_97 U sn a live j = Sum.inl (V', sn, a, live, j + 1) ∧ ga_fr a U V' ∧ V' a 22 0 = B + q ∧ (∀ z, z ≠ j → V' a 53 z = U a 53 z) ∧ (live ≠ 0 → (S w = none ∧ V' a 51 0 = 0) ∨ ∃ v, S w = some v ∧ V' a 53 j = v ∧ (V' a 51 0 = 0 ↔ U a 51 0 = 0)) := by
  have F1 : ga_fr a U (dv_u U a 24 0 0) := ga_u (by decide)
  obtain ⟨U3, v, e3, F3, g3, r3, -⟩ := er_sum (Or.inr rfl) hw 8 p q S hS p0 (dv_u U a 24 0 0) live (gx_ex (gx_f hx F1)) (by rw [u24_22]; exact hg)
  rw [u24] at r3
  have F4 : ga_fr a U (dv_u U3 a 53 j v) := ga_t (ga_t F1 (ga_e F3)) (ga_u (by decide))
  have g4 : dv_u U3 a 53 j v a 22 0 = B + q := by rw [u_j (by decide)]; exact g3
  have k51 : dv_u U3 a 53 j v a 51 0 = U a 51 0 := by rw [u_j (by decide), F3 a 51 0 (fun q => absurd q.2 (by decide)), u_j (by decide)]
  have k24 : dv_u U3 a 53 j v a 24 0 = U3 a 24 0 := u_j (by decide)
  have k53 : ∀ z, dv_u U3 a 53 j v a 53 z = if z = j then v else U a 53 z := fun z => by
    rw [u_if, F3 a 53 z (fun q => absurd q.2 (by decide)), u_j (by decide)]
  have E : ∀ Z, (if dv_u U3 a 53 j v a 51 0 = 0 then f_X12_goesAlong_133 (dv_u U3 a 53 j v) sn a live j else if dv_u U3 a 53 j v a 24 0 ≠ 0 then f_X12_goesAlong_133 (dv_u U3 a 53 j v) sn a live j else f_X12_goesAlong_134 (dv_u U3 a 53 j v) sn a live j 1) = Z → f_X12_goesAlong_97 U sn a live j = Z := by
    intro Z hZ
    unfold f_X12_goesAlong_97
    rw [bq, dv_bn2 e3, bq, bq]
    exact hZ
  have T : ∀ v', f_X12_goesAlong_134 (dv_u U3 a 53 j v) sn a live j v' = Sum.inl (dv_u (dv_u U3 a 53 j v) a 51 0 v', sn, a, live, j + 1) := fun v' => by
    unfold f_X12_goesAlong_134
    rw [bq, bq]
  have K : ∀ v', dv_u (dv_u U3 a 53 j v) a 51 0 v' a 22 0 = B + q ∧ (∀ z, z ≠ j → dv_u (dv_u U3 a 53 j v) a 51 0 v' a 53 z = U a 53 z) ∧ dv_u (dv_u U3 a 53 j v) a 51 0 v' a 53 j = v ∧ dv_u (dv_u U3 a 53 j v) a 51 0 v' a 51 0 = v' := fun v' => ⟨by rw [u_j (by decide)]; exact g4, fun z hz => by rw [u_j (by decide), k53, if_neg hz], by rw [u_j (by decide), k53, if_pos rfl], u_e⟩
  by_cases e51 : U a 51 0 = 0
  · obtain ⟨K1, K2, K3, K4⟩ := K 0
    refine ⟨_, E _ (by rw [if_pos (by rw [k51]; exact e51)]; exact T 0), ga_t F4 (ga_u (by decide)), K1, K2, fun hl => ?_⟩
    cases hS' : S w with
    | none => exact Or.inl ⟨rfl, K4⟩
    | some t =>
      unfold ex_rs at r3
      rw [if_neg hl, if_neg (fun q => q rfl), hS'] at r3
      have r3 : U3 a 24 0 = 0 ∧ v = t := r3
      exact Or.inr ⟨t, rfl, by rw [K3, r3.2], ⟨fun _ => e51, fun _ => K4⟩⟩
  · by_cases e24 : U3 a 24 0 = 0
    · obtain ⟨K1, K2, K3, K4⟩ := K 1
      refine ⟨_, E _ (by rw [if_neg (by rw [k51]; exact e51), if_neg (by rw [k24]; exact fun q => q e24)]; exact T 1), ga_t F4 (ga_u (by decide)), K1, K2, fun hl => ?_⟩
      unfold ex_rs at r3
      rw [if_neg hl, if_neg (fun q => q rfl)] at r3
      cases hS' : S w with
      | none => rw [hS'] at r3; exact absurd e24 r3
      | some t =>
        rw [hS'] at r3
        have r3 : U3 a 24 0 = 0 ∧ v = t := r3
        exact Or.inr ⟨t, rfl, by rw [K3, r3.2], ⟨fun q => absurd (K4.symm.trans q) (by decide), fun q => absurd q e51⟩⟩
    · obtain ⟨K1, K2, K3, K4⟩ := K 0
      refine ⟨_, E _ (by rw [if_neg (by rw [k51]; exact e51), if_pos (by rw [k24]; exact e24)]; exact T 0), ga_t F4 (ga_u (by decide)), K1, K2, fun hl => ?_⟩
      unfold ex_rs at r3
      rw [if_neg hl, if_neg (fun q => q rfl)] at r3
      cases hS' : S w with
      | none => exact Or.inl ⟨rfl, K4⟩
      | some t =>
        rw [hS'] at r3
        have r3 : U3 a 24 0 = 0 ∧ v = t := r3
        exact absurd r3.1 e24
theorem go_76 (hj : j < sn) (hS : D_sum 1 cd vl 8 p q S) (p0 : 0 ≤ p) (hx : gx cd vl w a B U) (hg : U a 22 0 = B + (if j ≤ 0 then p else p - 1)) (hw : ∀ k, -2147483648 ≤ w k ∧ w k ≤ 2147483647) : ∃ V' : dV, f_X12_goesAlong_76b (U, sn, a, live, j) = Sum.inl (V', sn, a, live, j + 1) ∧ ga_fr a U V' ∧ V' a 22 0 = B + q ∧ (∀ z, z ≠ j → V' a 53 z = U a 53 z) ∧ (live ≠ 0 → (S w = none ∧ V' a 51 0 = 0) ∨ ∃ v, S w = some v ∧ V' a 53 j = v ∧ (V' a 51 0 = 0 ↔ U a 51 0 = 0)) := by
  rw [f_X12_goesAlong_76e]
  unfold f_X12_goesAlong_76c
  rw [if_neg (by omega)]
  by_cases e : j ≤ 0
  · rw [if_pos e]
    rw [if_pos e] at hg
    exact go_97 hS p0 hx hg hw
  · rw [if_neg e, bq, bq, bq]
    rw [if_neg e] at hg
    have F : ga_fr a U (dv_u U a 22 0 (U a 22 0 + 1)) := ga_u (by decide)
    obtain ⟨V', e1, f1, g1, h1, h2⟩ := go_97 (sn := sn) (j := j) (live := live) hS p0 (gx_f hx F) (by rw [u22, hg]; omega) hw
    refine ⟨V', e1, ga_t F f1, g1, fun z hz => by rw [h1 z hz, u_j (by decide)], fun hl => ?_⟩
    have := h2 hl
    rw [u_j (by decide)] at this
    exact this
/-- the "if" behind them -/
theorem go_211 (hg : U a 22 0 = B + j) : ∃ V' : dV, f_X12_goesAlong_211 U a t = Sum.inr (V', 0) ∧ ga_fr a U V' ∧ V' a 22 0 = B + (j + 1) ∧ V' a 49 0 = U a 49 0 ∧ V' a 51 0 = U a 51 0 ∧ (∀ z, V' a 53 z = U a 53 z) ∧ (V' a 52 0 ≠ 0 ↔ t ≠ 0 ∧ U a 24 0 = 0) := by
  have L : ∀ v, ∃ V' : dV, f_X12_goesAlong_234 (dv_u U a 52 0 t) a v = Sum.inr (V', 0) ∧ ga_fr a U V' ∧ V' a 22 0 = B + (j + 1) ∧ V' a 49 0 = U a 49 0 ∧ V' a 51 0 = U a 51 0 ∧ (∀ z, V' a 53 z = U a 53 z) ∧ V' a 52 0 = v := by
    intro v
    unfold f_X12_goesAlong_234
    rw [bq, bq, bq, bq]
    refine ⟨_, rfl, ga_t (ga_t (ga_u (by decide)) (ga_u (by decide))) (ga_u (by decide)), ?_, ?_, ?_, fun z => ?_, ?_⟩
    · rw [u_e, u_j (by decide), u_j (by decide), hg]; omega
    · rw [u_j (by decide), u_j (by decide), u_j (by decide)]
    · rw [u_j (by decide), u_j (by decide), u_j (by decide)]
    · rw [u_j (by decide), u_j (by decide), u_j (by decide)]
    · rw [u_j (by decide), u_e]
  unfold f_X12_goesAlong_211 f_X12_goesAlong_233
  rw [bq, bq, u_e]
  by_cases e : t = 0
  · obtain ⟨V', l1, l2, l3, l4, l5, l6, l7⟩ := L 0
    rw [if_pos e]
    exact ⟨V', l1, l2, l3, l4, l5, l6, ⟨fun q => absurd l7 q, fun q => absurd e q.1⟩⟩
  · rw [if_neg e, bq, u_j (by decide)]
    by_cases e1 : U a 24 0 = 0
    · obtain ⟨V', l1, l2, l3, l4, l5, l6, l7⟩ := L 1
      rw [if_neg (fun q => q e1)]
      exact ⟨V', l1, l2, l3, l4, l5, l6, ⟨fun _ => ⟨e, e1⟩, fun _ => by rw [l7]; decide⟩⟩
    · obtain ⟨V', l1, l2, l3, l4, l5, l6, l7⟩ := L 0
      rw [if_pos e1]
      exact ⟨V', l1, l2, l3, l4, l5, l6, ⟨fun q => absurd l7 q, fun q => absurd q.2 e1⟩⟩
theorem go_184 (hT : (cd m ≠ 4 ∧ j = m ∧ T = fun _ => some 1) ∨ (cd m = 4 ∧ m + 1 < j ∧ D_test 1 cd vl 8 (m + 1) j T)) (m0 : 0 ≤ m) (hx : gx cd vl w a B U) (hg : U a 22 0 = B + m) (hw : ∀ k, -2147483648 ≤ w k ∧ w k ≤ 2147483647) : ∃ V' : dV, f_X12_goesAlong_184 U a live = Sum.inr (V', 0) ∧ ga_fr a U V' ∧ V' a 22 0 = B + (j + 1) ∧ V' a 49 0 = U a 49 0 ∧ V' a 51 0 = U a 51 0 ∧ (∀ z, V' a 53 z = U a 53 z) ∧ (live ≠ 0 → (V' a 52 0 ≠ 0 ↔ so (T w))) := by
  have F1 : ga_fr a U (dv_u U a 24 0 0) := ga_u (by decide)
  have x1 := gx_f hx F1
  have g1 : dv_u U a 24 0 0 a 22 0 = B + m := by rw [u24_22]; exact hg
  unfold f_X12_goesAlong_184 f_X12_goesAlong_206
  rw [bq]
  have FIN : ∀ (U3 : dV) (tt : Int), ga_fr a U U3 → U3 a 22 0 = B + j → U3 a 49 0 = U a 49 0 → U3 a 51 0 = U a 51 0 → (∀ z, U3 a 53 z = U a 53 z) → (live ≠ 0 → (tt ≠ 0 ∧ U3 a 24 0 = 0 ↔ so (T w))) → ∃ V' : dV, f_X12_goesAlong_211 U3 a tt = Sum.inr (V', 0) ∧ ga_fr a U V' ∧ V' a 22 0 = B + (j + 1) ∧ V' a 49 0 = U a 49 0 ∧ V' a 51 0 = U a 51 0 ∧ (∀ z, V' a 53 z = U a 53 z) ∧ (live ≠ 0 → (V' a 52 0 ≠ 0 ↔ so (T w))) := by
    intro U3 tt f3 g3 h49 h51 h53 ht
    obtain ⟨V', l1, l2, l3, l4, l5, l6, l7⟩ := go_211 (t := tt) g3
    exact ⟨V', l1, ga_t f3 l2, l3, l4.trans h49, l5.trans h51, fun z => (l6 z).trans (h53 z), fun hl => l7.trans (ht hl)⟩
  rcases hT with ⟨h4, rfl, rfl⟩ | ⟨h4, hl, hD⟩
  · rw [dv_bn2 (q_pass0 (gx_ex x1) m0 g1 h4), if_pos rfl]
    refine FIN _ 1 F1 g1 (u_j (by decide)) (u_j (by decide)) (fun z => u_j (by decide)) (fun _ => ⟨fun _ => ⟨1, rfl, by decide⟩, fun _ => ⟨by decide, u24⟩⟩)
  · rw [dv_bn2 (q_pass1 (gx_ex x1) m0 g1 h4), if_neg (by decide)]
    have F2 : ga_fr a U (dv_u (dv_u U a 24 0 0) a 22 0 (B + (m + 1))) := ga_t F1 (ga_u (by decide))
    have x2 := gx_f hx F2
    have g2 : dv_u (dv_u U a 24 0 0) a 22 0 (B + (m + 1)) a 22 0 = B + (m + 1) := u22
    have b2 : dv_u (dv_u U a 24 0 0) a 22 0 (B + (m + 1)) a 24 0 = 0 := by rw [u22_24, u24]
    obtain ⟨U3, v, e3, F3, g3, r3, -⟩ := er_test (Or.inr rfl) hw 8 (m + 1) j T hD (by omega) _ live (gx_ex x2) g2
    rw [b2] at r3
    rw [dv_bn2 e3]
    have k : ∀ (mm : Nat) (z : Int), mm = 49 ∨ mm = 51 ∨ mm = 53 → U3 a mm z = U a mm z := fun mm z hm => by
      rw [F3 a mm z (fun q => by have := q.2; omega), u_j (by omega), u_j (by omega)]
    have FF : ga_fr a U U3 := ga_t F2 (ga_e F3)
    have RS : live ≠ 0 → (v ≠ 0 ∧ U3 a 24 0 = 0 ↔ so (T w)) := fun hl => by
      unfold ex_rs at r3
      rw [if_neg hl, if_neg (fun q => q rfl)] at r3
      cases hTw : T w with
      | none =>
        rw [hTw] at r3
        exact ⟨fun q => absurd q.2 r3, fun ⟨z, hz, _⟩ => by cases hz⟩
      | some t =>
        rw [hTw] at r3
        have r3 : U3 a 24 0 = 0 ∧ v = t := r3
        exact ⟨fun q => ⟨t, rfl, by rw [← r3.2]; exact q.1⟩, fun ⟨z, hz, nz⟩ => by cases hz; exact ⟨by rw [r3.2]; exact nz, r3.1⟩⟩
    by_cases ev : v = 0
    · rw [if_pos ev]
      exact FIN U3 0 FF g3 (k 49 0 (by decide)) (k 51 0 (by decide)) (fun z => k 53 z (by decide)) (fun hl => ⟨fun q => absurd rfl q.1, fun q => absurd ev ((RS hl).mpr q).1⟩)
    · rw [if_neg ev]
      exact FIN U3 1 FF g3 (k 49 0 (by decide)) (k 51 0 (by decide)) (fun z => k 53 z (by decide)) (fun hl => ⟨fun q => (RS hl).mp ⟨ev, q.2⟩, fun q => ⟨by decide, ((RS hl).mpr q).2⟩⟩)
/-- how often, and the "if" -/
theorem go_end (hj : sn ≤ p) (hM : cl_tm 1 cd vl m m' 1 τ) (hT : (cd m' ≠ 4 ∧ j = m' ∧ T = fun _ => some 1) ∨ (cd m' = 4 ∧ m' + 1 < j ∧ D_test 1 cd vl 8 (m' + 1) j T)) (m0 : 0 ≤ m) (hx : gx cd vl w a B U) (hg : U a 22 0 = B + m) (hw : ∀ k, -2147483648 ≤ w k ∧ w k ≤ 2147483647) : ∃ V' : dV, f_X12_goesAlong_76b (U, sn, a, live, p) = Sum.inr (V', 0) ∧ ga_fr a U V' ∧ V' a 22 0 = B + (j + 1) ∧ V' a 49 0 = τ ∧ V' a 51 0 = U a 51 0 ∧ (∀ z, V' a 53 z = U a 53 z) ∧ (live ≠ 0 → (V' a 52 0 ≠ 0 ↔ so (T w))) := by
  rw [f_X12_goesAlong_76e]
  unfold f_X12_goesAlong_76c
  rw [if_pos hj, bq]
  have F1 : ga_fr a U (dv_u U a 49 0 1) := ga_u (by decide)
  have x1 := gx_f hx F1
  have g1 : dv_u U a 49 0 1 a 22 0 = B + m := by rw [u_j (by decide)]; exact hg
  rcases hM with ⟨b1, rfl, rfl⟩ | ⟨-, b2, b3, b4, rfl, rfl⟩
  · rw [dv_bn2 (q_pass0 (gx_ex x1) m0 g1 (fun q => b1 ⟨rfl, q⟩)), if_pos rfl]
    obtain ⟨V', l1, l2, l3, l4, l5, l6, l7⟩ := go_184 (live := live) hT m0 x1 g1 hw
    exact ⟨V', l1, ga_t F1 l2, l3, by rw [l4, u_e], by rw [l5, u_j (by decide)], fun z => by rw [l6, u_j (by decide)], l7⟩
  · rw [dv_bn2 (q_pass1 (gx_ex x1) m0 g1 b2), if_neg (by decide), bq, u_e, bq, bq, bq, bq, bq, bq]
    have n2 : ∀ z, dv_u (dv_u U a 49 0 1) a 22 0 (B + (m + 1)) a 2 z = U a 2 z := fun z => by rw [u_j (by decide), u_j (by decide)]
    have e : vl (m + 1) = U a 2 (2880 + (B + (m + 1))) := hx.2.1 _ (by omega)
    rw [n2, ← e]
    have F2 : ga_fr a U (dv_u (dv_u (dv_u (dv_u U a 49 0 1) a 22 0 (B + (m + 1))) a 49 0 (vl (m + 1))) a 22 0 (dv_u (dv_u (dv_u U a 49 0 1) a 22 0 (B + (m + 1))) a 49 0 (vl (m + 1)) a 22 0 + 1)) := ga_t (ga_t (ga_t F1 (ga_u (by decide))) (ga_u (by decide))) (ga_u (by decide))
    obtain ⟨V', l1, l2, l3, l4, l5, l6, l7⟩ := go_184 (live := live) hT (by omega) (gx_f hx F2) (by rw [u_e, u_j (by decide), u_e]; omega) hw
    exact ⟨V', l1, ga_t F2 l2, l3, by rw [l4, u_j (by decide), u_e], by rw [l5, u_j (by decide), u_j (by decide), u_j (by decide), u_j (by decide)], fun z => by rw [l6, u_j (by decide), u_j (by decide), u_j (by decide), u_j (by decide)], l7⟩
end QTD
section QTE
variable {V V' V0 V1 V2 U U1 W W' W0 W1 W2 : dV} {a c z t k s p q x y n u o r B P i j m m' live ns τ q2 q3 q4 q5 : Int} {A : Nat → Int} {w cd vl X M g : Int → Int} {S T S0 S1 S2 : dn}
/-- the sums of a clause of orders -/
def os (cd vl : Int → Int) (ns i m : Int) (X : Int → Int) (q2 q3 q4 q5 : Int) (S0 S1 S2 : dn) : Prop := (ns = 0 ∧ m = i ∧ q3 = q2 ∧ q4 = q2 ∧ q5 = q2) ∨ (ns = 1 ∧ i < m ∧ q4 = q3 ∧ q5 = q3 ∧ D_sum 1 cd vl 8 i m S0 ∧ K_seg X q2 q3 S0 19) ∨ (ns = 3 ∧ ∃ (j1 j2 : Int), (i < j1 ∧ j1 < j2 ∧ j2 < m) ∧ D_sum 1 cd vl 8 i j1 S0 ∧ D_sum 1 cd vl 8 (j1 + 1) j2 S1 ∧ D_sum 1 cd vl 8 (j2 + 1) m S2 ∧ K_seg X q2 q3 S0 19 ∧ K_seg X q3 q4 S1 19 ∧ K_seg X q4 q5 S2 19)
theorem os_of (h : cl_sm 1 cd vl ns i m X q2 q3 q4 q5) : ∃ S0 S1 S2 : dn, os cd vl ns i m X q2 q3 q4 q5 S0 S1 S2 := by
  rcases h with h | ⟨h1, h2, h3, h4, S, h5, h6⟩ | ⟨h1, j1, j2, A0, A1, A2, l, D0, -, D1, -, D2, K0, K1, K2⟩
  · exact ⟨fun _ => none, fun _ => none, fun _ => none, Or.inl h⟩
  · exact ⟨S, fun _ => none, fun _ => none, Or.inr (Or.inl ⟨h1, h2, h3, h4, h5, h6⟩)⟩
  · exact ⟨A0, A1, A2, Or.inr (Or.inr ⟨h1, j1, j2, l, D0, D1, D2, K0, K1, K2⟩)⟩
/-- all are well -/
def smw (w : Int → Int) (ns : Int) (S0 S1 S2 : dn) (g : Int → Int) : Prop := ns = 0 ∨ (ns = 1 ∧ S0 w = some (g 0)) ∨ (ns = 3 ∧ S0 w = some (g 0) ∧ S1 w = some (g 1) ∧ S2 w = some (g 2))
def brk (w : Int → Int) (ns : Int) (S0 S1 S2 : dn) : Prop := (ns = 1 ∧ S0 w = none) ∨ (ns = 3 ∧ (S0 w = none ∨ S1 w = none ∨ S2 w = none))
theorem smw_n (h : smw w ns S0 S1 S2 g) : ¬ brk w ns S0 S1 S2 := by
  intro k
  rcases h with h | ⟨h1, h2⟩ | ⟨h1, h2, h3, h4⟩
  · rcases k with ⟨k, -⟩ | ⟨k, -⟩ <;> omega
  · rcases k with ⟨-, k⟩ | ⟨k, -⟩
    · rw [h2] at k; cases k
    · omega
  · rcases k with ⟨k, -⟩ | ⟨-, k | k | k⟩
    · omega
    · rw [h2] at k; cases k
    · rw [h3] at k; cases k
    · rw [h4] at k; cases k
/-- the class's sums -/
theorem c_sumsE {V0 : dV} (hV : kq_fr r V0 V) (c0 : 0 ≤ c) (c1 : c ≤ 11) (j0 : 0 ≤ j) (j3 : j ≤ 3) (hx : x ≠ r) (h : ∀ k, j ≤ k → k ≤ 2 → V0 x 1 (c * 8 + (2 + k)) = V0 x 1 (c * 8 + (2 + k + 1))) : ∃ V' : dV, dv_lp f_X6_reckonSums_2b (V, r, x, c, j) = (V', 1) ∧ kq_fr r V0 V' ∧ ∀ z, z < j → V' r 2 z = V r 2 z := by
  refine dv_inv (P := fun q => ∃ (U : dV) (i : Int), q = (U, r, x, c, i) ∧ j ≤ i ∧ i ≤ 3 ∧ kq_fr r V0 U ∧ ∀ z, z < j → U r 2 z = V r 2 z) (Q := fun q => ∃ V' : dV, q = (V', 1) ∧ kq_fr r V0 V' ∧ ∀ z, z < j → V' r 2 z = V r 2 z) (m := fun q => (3 - q.2.2.2.2).toNat) ?_ _ ⟨V, j, rfl, by omega, j3, hV, fun _ _ => rfl⟩
  rintro q ⟨U, i, rfl, ij, i3, hU, hz⟩
  by_cases e : 3 ≤ i
  · rw [f_X6_reckonSums_2e]
    unfold f_X6_reckonSums_2c
    rw [if_pos e]
    exact Or.inr ⟨_, rfl, U, rfl, hU, hz⟩
  · have ux : ∀ z, U x 1 z = V0 x 1 z := fun z => hU x 1 z (fun q => hx q.1)
    rw [c_sum0 c0 c1 (by omega) (by omega) (by rw [ux, ux]; exact h i ij (by omega))]
    exact Or.inl ⟨_, rfl, ⟨_, i + 1, rfl, by omega, by omega, kq_t hU kq_2, fun z hz' => by rw [u_i (by omega)]; exact hz z hz'⟩, by dsimp only; omega⟩
theorem c_sumsO (c0 : 0 ≤ c) (c1 : c ≤ 11) (hs : os cd vl ns i m (V x 0) (V x 1 (c * 8 + 2)) (V x 1 (c * 8 + 3)) (V x 1 (c * 8 + 4)) (V x 1 (c * 8 + 5)) S0 S1 S2) (h5 : V x 1 (c * 8 + 5) ≤ V x 2 0) (hw : kw_ok V r w) (hx : x ≠ r) : ∃ (V' : dV) (y : Int), f_X6_reckonSums V r x c = (V', y) ∧ kq_fr r V V' ∧ (y = 1 ∧ smw w ns S0 S1 S2 (V' r 2) ∨ y = 0 ∧ brk w ns S0 S1 S2) := by
  unfold f_X6_reckonSums
  have ks : ∀ {k : Int}, k = 0 ∨ k = 1 ∨ k = 2 → (V x 1 (c * 8 + (2 + k)) = V x 1 (c * 8 + (2 + k + 1)) ↔ (k = 0 ∧ V x 1 (c * 8 + 2) = V x 1 (c * 8 + 3)) ∨ (k = 1 ∧ V x 1 (c * 8 + 3) = V x 1 (c * 8 + 4)) ∨ (k = 2 ∧ V x 1 (c * 8 + 4) = V x 1 (c * 8 + 5))) := by
    intro k hk
    rcases hk with rfl | rfl | rfl <;> simp
  rcases hs with ⟨rfl, -, a3, a4, a5⟩ | ⟨rfl, -, a4, a5, D0, K0⟩ | ⟨rfl, j1, j2, l, D0, D1, D2, K0, K1, K2⟩
  · obtain ⟨V', e1, f1, -⟩ := c_sumsE (V0 := V) (j := 0) kq_r c0 c1 (by decide) (by decide) hx (fun k k0 k2 => (ks (by omega)).mpr (by omega))
    exact ⟨V', 1, e1, f1, Or.inl ⟨rfl, Or.inl rfl⟩⟩
  · have l0 := K0.1
    obtain ⟨U, f1, -, ⟨v, hv, u0, e1⟩ | ⟨hv, e1⟩⟩ := c_sum1 (V := V) (r := r) (x := x) (c := c) (j := 0) (h := 19) (w := w) c0 c1 (by decide) (by decide) K0 (by decide) (by show V x 1 (c * 8 + 3) ≤ _; omega) hw hx (D_sum_in D0)
    · obtain ⟨V', e2, f2, z2⟩ := c_sumsE (V0 := V) (j := 0 + 1) f1 c0 c1 (by decide) (by decide) hx (fun k k0 k2 => (ks (by omega)).mpr (by omega))
      exact ⟨V', 1, by rw [dv_lp_s e1]; exact e2, f2, Or.inl ⟨rfl, Or.inr (Or.inl ⟨rfl, by rw [z2 0 (by decide), u0, hv]⟩)⟩⟩
    · exact ⟨U, 0, dv_lp_e e1, f1, Or.inr ⟨rfl, Or.inl ⟨rfl, hv⟩⟩⟩
  · have l0 := K0.1
    have l1 := K1.1
    have l2 := K2.1
    have AG : ∀ {U : dV}, kq_fr r V U → (∀ m z, U x m z = V x m z) ∧ kw_ok U r w := fun f => ⟨fun m z => f x m z (fun q => hx q.1), kw_f hw f⟩
    obtain ⟨U, f1, -, ⟨v, hv, u0, e1⟩ | ⟨hv, e1⟩⟩ := c_sum1 (V := V) (r := r) (x := x) (c := c) (j := 0) (h := 19) (w := w) c0 c1 (by decide) (by decide) K0 (by decide) (by show V x 1 (c * 8 + 3) ≤ _; omega) hw hx (D_sum_in D0)
    · obtain ⟨ux, uw⟩ := AG f1
      have eX : U x 0 = V x 0 := funext fun z => ux 0 z
      obtain ⟨U2, f2, g2, ⟨v1, hv1, u1, e2⟩ | ⟨hv1, e2⟩⟩ := c_sum1 (V := U) (r := r) (x := x) (c := c) (j := 0 + 1) (h := 19) (w := w) (S := S1) c0 c1 (by decide) (by decide) (by rw [eX, ux, ux]; exact K1) (by decide) (by rw [ux, ux]; show V x 1 (c * 8 + 4) ≤ _; omega) uw hx (D_sum_in D1)
      · have f12 := kq_t f1 f2
        obtain ⟨ux2, uw2⟩ := AG f12
        have eX2 : U2 x 0 = V x 0 := funext fun z => ux2 0 z
        obtain ⟨U3, f3, g3, ⟨v2, hv2, u2, e3⟩ | ⟨hv2, e3⟩⟩ := c_sum1 (V := U2) (r := r) (x := x) (c := c) (j := 0 + 1 + 1) (h := 19) (w := w) (S := S2) c0 c1 (by decide) (by decide) (by rw [eX2, ux2, ux2]; exact K2) (by decide) (by rw [ux2, ux2]; exact h5) uw2 hx (D_sum_in D2)
        · obtain ⟨V', e4, f4, z4⟩ := c_sumsE (V0 := V) (j := 0 + 1 + 1 + 1) (kq_t f12 f3) c0 c1 (by decide) (by decide) hx (fun k k0 k2 => absurd k0 (by omega))
          refine ⟨V', 1, by rw [dv_lp_s e1, dv_lp_s e2, dv_lp_s e3]; exact e4, f4, Or.inl ⟨rfl, Or.inr (Or.inr ⟨rfl, ?_, ?_, ?_⟩)⟩⟩
          · rw [z4 0 (by decide), g3 0 (by decide), g2 0 (by decide), u0, hv]
          · rw [z4 1 (by decide), g3 1 (by decide), hv1]
            have u1 : U2 r 2 1 = v1 := u1
            rw [u1]
          · rw [z4 2 (by decide), hv2]
            have u2 : U3 r 2 2 = v2 := u2
            rw [u2]
        · exact ⟨U3, 0, by rw [dv_lp_s e1, dv_lp_s e2]; exact dv_lp_e e3, kq_t f12 f3, Or.inr ⟨rfl, Or.inr ⟨rfl, Or.inr (Or.inr hv2)⟩⟩⟩
      · exact ⟨U2, 0, by rw [dv_lp_s e1]; exact dv_lp_e e2, kq_t f1 f2, Or.inr ⟨rfl, Or.inr ⟨rfl, Or.inr (Or.inl hv1)⟩⟩⟩
    · exact ⟨U, 0, dv_lp_e e1, f1, Or.inr ⟨rfl, Or.inr ⟨rfl, Or.inl hv⟩⟩⟩
/-- the reference's sums -/
theorem m_sumsO (hs : os cd vl ns i m X q2 q3 q4 q5 S0 S1 S2) (i0 : 0 ≤ i) (hx : gx cd vl w a B U) (hg : U a 22 0 = B + i) (h1 : U a 51 0 ≠ 0) (hw : ∀ k, -2147483648 ≤ w k ∧ w k ≤ 2147483647) : ∃ V' : dV, dv_lp f_X12_goesAlong_76b (U, ns, a, live, 0) = dv_lp f_X12_goesAlong_76b (V', ns, a, live, ns) ∧ ga_fr a U V' ∧ V' a 22 0 = B + m ∧ (live ≠ 0 → (V' a 51 0 ≠ 0 ∧ smw w ns S0 S1 S2 (V' a 53)) ∨ (V' a 51 0 = 0 ∧ brk w ns S0 S1 S2)) := by
  rcases hs with ⟨rfl, rfl, -⟩ | ⟨rfl, l, -, -, D0, -⟩ | ⟨rfl, j1, j2, l, D0, D1, D2, -⟩
  · exact ⟨U, rfl, ga_r, hg, fun _ => Or.inl ⟨h1, Or.inl rfl⟩⟩
  · obtain ⟨V1, e1, f1, g1, -, r1⟩ := go_76 (sn := 1) (j := 0) (live := live) (by decide) D0 i0 hx hg hw
    refine ⟨V1, dv_lp_s e1, f1, g1, fun hl => ?_⟩
    rcases r1 hl with ⟨k1, k2⟩ | ⟨v, k1, k2, k3⟩
    · exact Or.inr ⟨k2, Or.inl ⟨rfl, k1⟩⟩
    · exact Or.inl ⟨fun q => h1 (k3.mp q), Or.inr (Or.inl ⟨rfl, by rw [k1, k2]⟩)⟩
  · obtain ⟨V1, e1, f1, g1, -, r1⟩ := go_76 (sn := 3) (j := 0) (live := live) (by decide) D0 i0 hx hg hw
    obtain ⟨V2, e2, f2, g2, z2, r2⟩ := go_76 (sn := 3) (j := 0 + 1) (live := live) (by decide) D1 (by omega) (gx_f hx f1) (by rw [if_neg (by decide), g1]; omega) hw
    have f12 := ga_t f1 f2
    obtain ⟨V3, e3, f3, g3, z3, r3⟩ := go_76 (sn := 3) (j := 0 + 1 + 1) (live := live) (by decide) D2 (by omega) (gx_f hx f12) (by rw [if_neg (by decide), g2]; omega) hw
    refine ⟨V3, by rw [dv_lp_s e1, dv_lp_s e2, dv_lp_s e3]; rfl, ga_t f12 f3, g3, fun hl => ?_⟩
    rcases r1 hl with ⟨k1, k2⟩ | ⟨v, k1, k2, k3⟩
    · refine Or.inr ⟨?_, Or.inr ⟨rfl, Or.inl k1⟩⟩
      have h2 : V2 a 51 0 = 0 := by
        rcases r2 hl with ⟨-, l2⟩ | ⟨-, -, -, l3⟩
        · exact l2
        · exact l3.mpr k2
      rcases r3 hl with ⟨-, l2⟩ | ⟨-, -, -, l3⟩
      · exact l2
      · exact l3.mpr h2
    · rcases r2 hl with ⟨l1, l2⟩ | ⟨v1, l1, l2, l3⟩
      · refine Or.inr ⟨?_, Or.inr ⟨rfl, Or.inr (Or.inl l1)⟩⟩
        rcases r3 hl with ⟨-, m2⟩ | ⟨-, -, -, m3⟩
        · exact m2
        · exact m3.mpr l2
      · rcases r3 hl with ⟨m1, m2⟩ | ⟨v2, m1, m2, m3⟩
        · exact Or.inr ⟨m2, Or.inr ⟨rfl, Or.inr (Or.inr m1)⟩⟩
        · refine Or.inl ⟨fun q => h1 (k3.mp (l3.mp (m3.mp q))), Or.inr (Or.inr ⟨rfl, ?_, ?_, ?_⟩)⟩
          · rw [z3 0 (by decide), z2 0 (by decide), k1, k2]
          · have l2 : V2 a 53 1 = v1 := l2
            rw [z3 1 (by decide), l1, l2]
          · have m2 : V3 a 53 2 = v2 := m2
            rw [m1, m2]
/-- a clause of orders: its kind, how often, its sums and its "if" -/
def oc (cd vl : Int → Int) (i j : Int) (X M : Int → Int) (s ns : Int) (S0 S1 S2 T : dn) : Prop := (0 ≤ M 0 ∧ M 0 ≤ 3) ∧ (cd i = if M 0 = 0 then 21 else 23 + M 0) ∧ ns = (if M 0 = 0 then 3 else if M 0 = 1 then 1 else 0) ∧ M 5 ≤ s ∧ M 7 ≤ s ∧ ∃ m m', i < m ∧ m ≤ m' ∧ m' ≤ j ∧ os cd vl ns (i + 1) m X (M 2) (M 3) (M 4) (M 5) S0 S1 S2 ∧ cl_tm 1 cd vl m m' 1 (M 1) ∧ ((cd m' ≠ 4 ∧ j = m' ∧ M 6 = M 7 ∧ T = fun _ => some 1) ∨ (cd m' = 4 ∧ m' + 1 < j ∧ D_test 1 cd vl 8 (m' + 1) j T ∧ K_seg X (M 6) (M 7) T 20))
theorem oc_of (h : cl_ok 1 cd vl i j X M s) : ∃ (ns : Int) (S0 S1 S2 T : dn), oc cd vl i j X M s ns S0 S1 S2 T := by
  rcases h with ⟨h1, -⟩ | ⟨-, h2, h3, m, m', h4, h5, ⟨h6, h7⟩, h8⟩
  · exact absurd h1 (by decide)
  · obtain ⟨S0, S1, S2, hs⟩ := os_of h4
    have l1 : i < m := by
      rcases hs with ⟨-, a2, -⟩ | ⟨-, a2, -⟩ | ⟨-, j1, j2, l, -⟩ <;> omega
    have l2 : m ≤ m' := by
      rcases h5 with ⟨-, b2, -⟩ | ⟨-, -, -, -, b5, -⟩ <;> omega
    have l3 : m' ≤ j := by
      rcases h6 with ⟨-, b2, -⟩ | ⟨-, b2, -⟩ <;> omega
    rcases h6 with ⟨b1, b2, b3⟩ | ⟨b1, b2, T, b3, b4⟩
    · exact ⟨_, S0, S1, S2, _, h2, h3, rfl, h8, h7, m, m', l1, l2, l3, hs, h5, Or.inl ⟨b1, b2, b3, rfl⟩⟩
    · exact ⟨_, S0, S1, S2, T, h2, h3, rfl, h8, h7, m, m', l1, l2, l3, hs, h5, Or.inr ⟨b1, b2, b3, b4⟩⟩
theorem oc_T (h : oc cd vl i j X M s ns S0 S1 S2 T) : cl_T X (M 6) (M 7) T := by
  obtain ⟨-, -, -, -, -, m, m', -, -, -, -, -, h6⟩ := h
  rcases h6 with ⟨-, -, b, c⟩ | ⟨-, -, -, d⟩
  · exact Or.inl ⟨b, c⟩
  · exact Or.inr d
/-- what going along changes in all -/
def go_fr (a : Int) (V V' : dV) : Prop := ∀ b m z, ¬ (b = a ∧ ((22 ≤ m ∧ m ≤ 25) ∨ (49 ≤ m ∧ m ≤ 53))) → V' b m z = V b m z
theorem go_t (h : go_fr a V V') (k : go_fr a V' V1) : go_fr a V V1 := fun b m z q => (k b m z q).trans (h b m z q)
theorem go_u {m : Nat} {i : Int} (hm : (22 ≤ m ∧ m ≤ 25) ∨ (49 ≤ m ∧ m ≤ 53)) : go_fr a V (dv_u V a m i y) := fun b m' z q => by
  unfold dv_u; rw [if_neg (fun e => q ⟨e.1, by omega⟩)]
theorem go_a (h : ga_fr a V V') : go_fr a V V' := fun b m z q => h b m z (fun e => q ⟨e.1, by omega⟩)
/-- the reference goes along a clause -/
theorem m_goes (h : oc cd vl i j X M s ns S0 S1 S2 T) (i0 : 0 ≤ i) (hc : ∀ i, 0 ≤ i → cd i = if B + i < P then W a 2 (80 + (B + i)) else 0) (hv : ∀ i, 0 ≤ i → vl i = W a 2 (2880 + (B + i))) (ho : ow a w W) (h48 : W a 48 0 = B + i) (hw : ∀ k, -2147483648 ≤ w k ∧ w k ≤ 2147483647) : ∃ W' : dV, f_X12_goesAlong W a P live = (W', 0) ∧ go_fr a W W' ∧ W' a 22 0 = B + (j + 1) ∧ W' a 50 0 = cd i ∧ W' a 49 0 = M 1 ∧ (live ≠ 0 → (W' a 52 0 ≠ 0 ↔ so (T w)) ∧ ((W' a 51 0 ≠ 0 ∧ smw w ns S0 S1 S2 (W' a 53)) ∨ (W' a 51 0 = 0 ∧ brk w ns S0 S1 S2))) := by
  obtain ⟨h0, hcd, hns, -, -, m, m', l1, l2, l3, hs, hM, hT⟩ := h
  have hT' : (cd m' ≠ 4 ∧ j = m' ∧ T = fun _ => some 1) ∨ (cd m' = 4 ∧ m' + 1 < j ∧ D_test 1 cd vl 8 (m' + 1) j T) := by
    rcases hT with ⟨b1, b2, -, b4⟩ | ⟨b1, b2, b3, -⟩
    · exact Or.inl ⟨b1, b2, b4⟩
    · exact Or.inr ⟨b1, b2, b3⟩
  -- the start
  have F3 : go_fr a W (dv_u (dv_u (dv_u W a 25 0 1) a 23 0 P) a 22 0 (B + i)) := go_t (go_t (go_u (by decide)) (go_u (by decide))) (go_u (by decide))
  have x3 : gx cd vl w a B (dv_u (dv_u (dv_u W a 25 0 1) a 23 0 P) a 22 0 (B + i)) := by
    have k2 : ∀ z, dv_u (dv_u (dv_u W a 25 0 1) a 23 0 P) a 22 0 (B + i) a 2 z = W a 2 z := fun z => by rw [u_j (by decide), u_j (by decide), u_j (by decide)]
    refine ⟨fun i hi => ?_, fun i hi => ?_, ?_, ow_c ho k2 (F3 a 27 0 (fun q => absurd q.2 (by decide))) (F3 a 28 0 (fun q => absurd q.2 (by decide)))⟩
    · rw [k2, u_j (by decide), u_e]; exact hc i hi
    · rw [k2]; exact hv i hi
    · rw [u_j (by decide), u_j (by decide), u_e]
  have g3 : dv_u (dv_u (dv_u W a 25 0 1) a 23 0 P) a 22 0 (B + i) a 22 0 = B + i := u_e
  have n48 : dv_u (dv_u W a 25 0 1) a 23 0 P a 48 0 = B + i := by rw [u_j (by decide), u_j (by decide)]; exact h48
  have E : ∀ Z, (if cd i ≠ 21 then (if cd i ≠ 24 then f_X12_goesAlong_72 (dv_u (dv_u (dv_u (dv_u (dv_u (dv_u W a 25 0 1) a 23 0 P) a 22 0 (B + i)) a 50 0 (cd i)) a 22 0 (B + i + 1)) a 51 0 1) a live 0 else f_X12_goesAlong_72 (dv_u (dv_u (dv_u (dv_u (dv_u (dv_u W a 25 0 1) a 23 0 P) a 22 0 (B + i)) a 50 0 (cd i)) a 22 0 (B + i + 1)) a 51 0 1) a live 1) else f_X12_goesAlong_72 (dv_u (dv_u (dv_u (dv_u (dv_u (dv_u W a 25 0 1) a 23 0 P) a 22 0 (B + i)) a 50 0 (cd i)) a 22 0 (B + i + 1)) a 51 0 1) a live 3) = Z → f_X12_goesAlong W a P live = Z := by
    intro Z hZ
    unfold f_X12_goesAlong
    rw [bq, bq, bq, n48, bq, bq, dv_bn2 (q_codeAt (gx_ex x3) i0 g3), bq, bq, u_j (show (22 : Nat) ≠ 50 by decide), g3, bq, bq, bq, bq, u_j (show (50 : Nat) ≠ 51 by decide), u_j (show (50 : Nat) ≠ 22 by decide), u_e, bq]
    exact hZ
  generalize dv_u (dv_u (dv_u W a 25 0 1) a 23 0 P) a 22 0 (B + i) = U3 at F3 x3 g3 E
  have F6 : go_fr a W (dv_u (dv_u (dv_u U3 a 50 0 (cd i)) a 22 0 (B + i + 1)) a 51 0 1) := go_t (go_t (go_t F3 (go_u (by decide))) (go_u (by decide))) (go_u (by decide))
  have x6 : gx cd vl w a B (dv_u (dv_u (dv_u U3 a 50 0 (cd i)) a 22 0 (B + i + 1)) a 51 0 1) := by
    have x4 : gx cd vl w a B (dv_u U3 a 50 0 (cd i)) := by
      obtain ⟨y1, y2, y3, y4⟩ := x3
      have k2 : ∀ z, dv_u U3 a 50 0 (cd i) a 2 z = U3 a 2 z := fun z => u_j (by decide)
      refine ⟨fun i hi => ?_, fun i hi => ?_, ?_, ow_c y4 k2 (u_j (by decide)) (u_j (by decide))⟩
      · rw [k2, u_j (by decide)]; exact y1 i hi
      · rw [k2]; exact y2 i hi
      · rw [u_j (by decide)]; exact y3
    exact gx_f x4 (ga_t (ga_u (by decide)) (ga_u (by decide)))
  have g6 : dv_u (dv_u (dv_u U3 a 50 0 (cd i)) a 22 0 (B + i + 1)) a 51 0 1 a 22 0 = B + (i + 1) := by rw [u_j (by decide), u_e]; omega
  have o6 : dv_u (dv_u (dv_u U3 a 50 0 (cd i)) a 22 0 (B + i + 1)) a 51 0 1 a 51 0 ≠ 0 := by rw [u_e]; decide
  have c6 : dv_u (dv_u (dv_u U3 a 50 0 (cd i)) a 22 0 (B + i + 1)) a 51 0 1 a 50 0 = cd i := by rw [u_j (by decide), u_j (by decide), u_e]
  generalize dv_u (dv_u (dv_u U3 a 50 0 (cd i)) a 22 0 (B + i + 1)) a 51 0 1 = U6 at F6 x6 g6 o6 c6 E
  have ns0 : 0 ≤ ns := by rw [hns]; split; decide; split <;> decide
  obtain ⟨U7, e7, f7, g7, r7⟩ := m_sumsO (live := live) hs (by omega) x6 g6 o6 hw
  obtain ⟨U8, e8, f8, g8, t8, s8, z8, r8⟩ := go_end (live := live) (sn := ns) (p := ns) (Int.le_refl _) hM hT' (by omega) (gx_f x6 f7) g7 hw
  refine ⟨U8, E _ ?_, go_t F6 (go_a (ga_t f7 f8)), g8, by rw [(ga_t f7 f8) a 50 0 (fun q => absurd q.2 (by decide)), c6], t8, fun hl => ⟨r8 hl, ?_⟩⟩
  · have LP : f_X12_goesAlong_72 U6 a live ns = (U8, 0) := by
      unfold f_X12_goesAlong_72
      rw [e7]
      exact dv_lp_e e8
    by_cases e0 : M 0 = 0
    · rw [if_pos e0] at hcd hns
      rw [if_neg (fun q => q hcd), ← hns]; exact LP
    · rw [if_neg e0] at hcd hns
      rw [if_pos (by omega)]
      by_cases e1 : M 0 = 1
      · rw [if_pos e1] at hns
        rw [if_neg (by omega), ← hns]; exact LP
      · rw [if_neg e1] at hns
        rw [hns] at LP
        rw [if_pos (by omega)]; exact LP
  · rw [s8, show U8 a 53 = U7 a 53 from funext z8]
    exact r7 hl
end QTE
section QTF
variable {V V' V0 V1 V2 U U1 W W' W0 W1 W2 : dV} {a c z t k s p q x y n u o r B P i j m m' live ns D zz1 zz2 v : Int} {A : Nat → Int} {w cd vl X M g : Int → Int} {S T S0 S1 S2 : dn}
/-- the clerk's words, and what of the reference orders use -/
theorem RR_oc (h : RR A a V W) (f : ∀ b m z, ¬ (b = A 12 ∧ m ≤ 3) → V' b m z = V b m z) (g : ∀ b m z, ¬ (b = a ∧ ((22 ≤ m ∧ m ≤ 28) ∨ (48 ≤ m ∧ m ≤ 53))) → W' b m z = W b m z) : RR A a V' W' := by
  have hA := h.1
  have F : ∀ (q : Nat) (m : Nat) (z : Int), q < 38 → q ≠ 12 → V' (A q) m z = V (A q) m z := fun q m z hq hn => f _ m z (fun w => inj_n hA hq (by decide) hn w.1)
  refine RR_idle h (fun i m z hi hm hL => F i m z hi (fun w => ?_)) (fun m z hm => g a m z (fun w => ?_)) (fun z _ => F 14 1 z (by decide) (by decide)) (fun m z _ _ => F 4 m z (by decide) (by decide)) (fun z => ⟨F 15 0 z (by decide) (by decide), F 15 4 z (by decide) (by decide)⟩) (fun z => g a 2 z (fun q => absurd q.2 (by omega))) (fun z => g a 31 z (fun q => absurd q.2 (by omega))) (g a 33 0 (fun q => absurd q.2 (by omega)))
  · subst w
    cases hL
  · unfold M_a at hm
    simp only [Bool.or_eq_false_iff, Bool.and_eq_false_iff, beq_eq_false_iff_ne, decide_eq_false_iff_not, ne_eq] at hm
    omega
def sml (v : Int) : Int := if v < 0 then -1 else if v ≤ 1000000 then v else -1
theorem q_small (h0 : -2147483648 ≤ v) (h1 : v ≤ 2147483647) : f_X12_small V v = (sml v, ()) := by
  unfold f_X12_small sml
  rw [bq]
  by_cases e : v < 0
  · rw [if_pos e, if_pos (by have := mt lcmp_ge.mp (show ¬ 0 ≤ v by omega); omega)]
  · rw [if_neg e, if_neg (by have := lcmp_ge.mpr (show (0 : Int) ≤ v by omega); omega), bq]
    by_cases e1 : v ≤ 1000000
    · rw [if_pos e1, if_pos (lcmp_le.mpr e1), bq, dv_l2i_ok (by omega) (by omega)]
    · rw [if_neg e1, if_neg (fun q => e1 (lcmp_le.mp q))]
theorem sml_in (h0 : 0 ≤ v) (h1 : v ≤ 11) : sml v = v := by unfold sml; rw [if_neg (by omega), if_pos (by omega)]
theorem sml_out {k : Int} (k1 : 0 ≤ k ∧ k ≤ 12) (h : ¬ (0 ≤ v ∧ v < k)) : ¬ (0 ≤ sml v ∧ sml v < k) := by
  unfold sml
  split
  · omega
  · split <;> omega
theorem c_lay1 (h : RR A a V W) (hn : ¬ ((0 ≤ x ∧ x ≤ 11) ∧ 0 ≤ y ∧ y ≤ 11)) : f_X11_doLay V (A 0) c x y = (V, -1) := by
  obtain ⟨g0, g1, -⟩ := RR_G h
  unfold f_X11_doLay
  rw [bq, g0, bq, g1, dv_bn2 c_onGrid]
  by_cases hx : 0 ≤ x ∧ x ≤ 11
  · rw [if_pos hx, if_neg (by decide), dv_bn2 c_onGrid, if_neg (fun q => hn ⟨hx, q⟩), if_neg (fun q => q rfl)]
  · rw [if_neg hx, if_pos rfl]
theorem c_lay2 (h : RR A a V W) (hx : 0 ≤ x ∧ x ≤ 11) (hy : 0 ≤ y ∧ y ≤ 11) (hn : ¬ (0 ≤ c ∧ c < V (A 4) 7 0)) : f_X11_doLay V (A 0) c x y = (V, -2) := by
  obtain ⟨g0, g1, -⟩ := RR_G h
  have gV : f_X11_onGrid V x = (1, ()) ∧ f_X11_onGrid V y = (1, ()) := ⟨by rw [c_onGrid, if_pos hx], by rw [c_onGrid, if_pos hy]⟩
  have hV : f_X1_has V (A 4) c = (0, ()) := by rw [q_has, if_neg hn]
  unfold f_X11_doLay
  rw [bq, g0, bq, g1, dv_bn2 gV.1, if_neg (by decide), dv_bn2 gV.2, if_pos (by decide), dv_bn2 hV, if_neg (fun q => q rfl)]
theorem c_laysml (h : RR A a V W) : f_X11_doLay V (A 0) (sml c) (sml x) (sml y) = f_X11_doLay V (A 0) c x y := by
  have n9 := (RR_n h).1.1.1
  by_cases hxy : (0 ≤ x ∧ x ≤ 11) ∧ 0 ≤ y ∧ y ≤ 11
  · rw [sml_in hxy.1.1 hxy.1.2, sml_in hxy.2.1 hxy.2.2]
    by_cases hc : 0 ≤ c ∧ c < V (A 4) 7 0
    · rw [sml_in hc.1 (by omega)]
    · rw [c_lay2 h hxy.1 hxy.2 hc, c_lay2 h hxy.1 hxy.2 (sml_out (by omega) hc)]
  · rw [c_lay1 h hxy, c_lay1 h]
    intro q
    by_cases hx : 0 ≤ x ∧ x < 12
    · have hy : ¬ (0 ≤ y ∧ y < 12) := fun w => hxy ⟨by omega, by omega⟩
      exact sml_out (by decide) hy (by omega)
    · exact sml_out (by decide) hx (by omega)
theorem c_rollsml (h : RR A a V W) : f_X11_doRoll V (A 0) (sml c) = f_X11_doRoll V (A 0) c := by
  obtain ⟨g0, g1, -⟩ := RR_G h
  have n9 := (RR_n h).1.1.1
  have N : ∀ c : Int, ¬ (0 ≤ c ∧ c < V (A 4) 7 0) → f_X11_doRoll V (A 0) c = (V, -2) := fun c hn => by
    have hV : f_X1_has V (A 4) c = (0, ()) := by rw [q_has, if_neg hn]
    unfold f_X11_doRoll
    rw [bq, g0, bq, g1, dv_bn2 hV, if_neg (fun q => q rfl)]
  by_cases hc : 0 ≤ c ∧ c < V (A 4) 7 0
  · rw [sml_in hc.1 (by omega)]
  · rw [N c hc, N _ (sml_out (by omega) hc)]
/-- the words "done" and "latest" -/
def wd (A : Nat → Int) (a : Int) (V W : dV) (D : Int) : Prop := V (A 12) 1 1 = W a 27 0 ∧ V (A 12) 1 2 = W a 28 0 ∧ (0 ≤ W a 27 0 ∧ W a 27 0 ≤ D) ∧ -1 ≤ W a 28 0 ∧ W a 28 0 ≤ 99
/-- what a run may change -/
def OF (A : Nat → Int) (a : Int) (V W V' W' : dV) : Prop := (∀ b m z, ¬ (b = A 4 ∧ (m = 2 ∨ m = 3 ∨ m = 4 ∨ m = 5 ∨ m = 10)) → ¬ (b = A 14 ∧ m ≤ 3) → ¬ (b = A 15 ∧ (m = 0 ∨ m = 4)) → ¬ (b = A 12 ∧ m ≤ 3) → V' b m z = V b m z) ∧ (∀ z, z ≠ 0 → V' (A 4) 5 z = V (A 4) 5 z) ∧ (∀ b m z, ¬ (b = a ∧ (m = 2 ∨ (22 ≤ m ∧ m ≤ 31) ∨ m = 33 ∨ (48 ≤ m ∧ m ≤ 53))) → W' b m z = W b m z) ∧ ∀ z, 29 ≤ z → W' a 2 z = W a 2 z
theorem OF_r : OF A a V W V W := ⟨fun _ _ _ _ _ _ _ => rfl, fun _ _ => rfl, fun _ _ _ _ => rfl, fun _ _ => rfl⟩
theorem OF_t (h : OF A a V W V' W') (k : OF A a V' W' V1 W1) : OF A a V W V1 W1 := ⟨fun b m z p q r s => (k.1 b m z p q r s).trans (h.1 b m z p q r s), fun z hz => (k.2.1 z hz).trans (h.2.1 z hz), fun b m z p => (k.2.2.1 b m z p).trans (h.2.2.1 b m z p), fun z hz => (k.2.2.2 z hz).trans (h.2.2.2 z hz)⟩
theorem OF_d (h : DF A a V W V' W') : OF A a V W V' W' := ⟨fun b m z p q r _ => h.1 b m z p q r, h.2.1, fun b m z p => h.2.2.1 b m z (fun q => p ⟨q.1, by omega⟩), h.2.2.2⟩
theorem OF_o (hA : inj A) (f : ∀ b m z, ¬ (b = A 12 ∧ m ≤ 3) → V' b m z = V b m z) (g : ∀ b m z, ¬ (b = a ∧ ((22 ≤ m ∧ m ≤ 28) ∨ (48 ≤ m ∧ m ≤ 53))) → W' b m z = W b m z) : OF A a V W V' W' := ⟨fun b m z _ _ _ p => f b m z p, fun z _ => f _ _ _ (fun q => inj_n hA (by decide) (by decide) (by decide) q.1), fun b m z p => g b m z (fun q => p ⟨q.1, by omega⟩), fun z _ => g _ _ _ (fun q => absurd q.2 (by omega))⟩
/-- behind a deed -/
theorem one_end (h : RR A a V W) (hd : wd A a V W D) (hD : D ≤ 900) (h0 : 0 ≤ t) : f_X11_runOnce_159 V (A 0) t = (dv_u V (A 12) 1 1 (V (A 12) 1 1 + 1), 1) ∧ RR A a (dv_u V (A 12) 1 1 (V (A 12) 1 1 + 1)) (dv_u W a 27 0 (dv_add (W a 27 0) 1)) ∧ OF A a V W (dv_u V (A 12) 1 1 (V (A 12) 1 1 + 1)) (dv_u W a 27 0 (dv_add (W a 27 0) 1)) ∧ wd A a (dv_u V (A 12) 1 1 (V (A 12) 1 1 + 1)) (dv_u W a 27 0 (dv_add (W a 27 0) 1)) (D + 1) := by
  obtain ⟨d1, d2, d3, d4⟩ := hd
  have ad : dv_add (W a 27 0) 1 = W a 27 0 + 1 := dv_add_ok (by omega) (by omega) (by omega) (by omega) (by omega) (by omega)
  have g8 : V (A 0) 8 0 = A 12 := h.2.1.1.2.2.2.2.2.2.2.2.1
  have f : ∀ b m z, ¬ (b = A 12 ∧ m ≤ 3) → dv_u V (A 12) 1 1 (V (A 12) 1 1 + 1) b m z = V b m z := fun b m z q => by
    unfold dv_u; rw [if_neg (fun e => q ⟨e.1, by rw [e.2.1]; decide⟩)]
  have g : ∀ b m z, ¬ (b = a ∧ ((22 ≤ m ∧ m ≤ 28) ∨ (48 ≤ m ∧ m ≤ 53))) → dv_u W a 27 0 (dv_add (W a 27 0) 1) b m z = W b m z := fun b m z q => by
    unfold dv_u; rw [if_neg (fun e => q ⟨e.1, by rw [e.2.1]; decide⟩)]
  refine ⟨?_, RR_oc h f g, OF_o h.1 f g, ?_, ?_, ?_, ?_⟩
  · unfold f_X11_runOnce_159
    rw [bq, g8, bq, bq, bq, if_neg (by omega), d1, ad]
  · rw [u_e, u_e, d1, ad]
  · rw [u_i (by decide), u_j (by decide), d2]
  · rw [u_e, ad]; omega
  · rw [u_j (by decide)]; exact d4
theorem one_bad (h : RR A a V W) (h0 : t < 0) : ∃ V', f_X11_runOnce_159 V (A 0) t = (V', 0) ∧ RR A a V' W ∧ OF A a V W V' W := by
  have g8 : V (A 0) 8 0 = A 12 := h.2.1.1.2.2.2.2.2.2.2.2.1
  have f : ∀ v b m z, ¬ (b = A 12 ∧ m ≤ 3) → dv_u V (A 12) 1 1 v b m z = V b m z := fun v b m z q => by
    unfold dv_u; rw [if_neg (fun e => q ⟨e.1, by rw [e.2.1]; decide⟩)]
  refine ⟨dv_u V (A 12) 1 1 (dv_add (V (A 12) 1 1) 1), ?_, RR_oc h (f _) (fun _ _ _ _ => rfl), OF_o h.1 (f _) (fun _ _ _ _ => rfl)⟩
  unfold f_X11_runOnce_159
  rw [bq, g8, bq, bq, bq, if_pos h0]
end QTF
section QTG
variable {V V' V0 V1 V2 U U1 W W' W0 W1 W2 : dV} {a c z t k s p q x y n u o r B P i j m m' live ns D zz1 zz2 v : Int} {A : Nat → Int} {w cd vl X M g : Int → Int} {S T S0 S1 S2 : dn}
/-- what the reference does for one run, behind going along -/
theorem m_run (hq : q < zz1) (e : f_X12_goesAlong W a P 1 = (W1, 0)) : f_X12_runs_19b (W, zz2, zz1, a, P, q) = if W1 a 52 0 ≠ 0 then (if W1 a 51 0 = 0 then Sum.inr (W1, 0) else dv_b2 (f_X12_obeys W1 a) fun V49 x7 => if 0 ≤ x7 then Sum.inl (dv_u V49 a 27 0 (dv_add (V49 a 27 0) 1), zz2, zz1, a, P, q + 1) else Sum.inr (V49, 0)) else Sum.inl (W1, zz2, zz1, a, P, q + 1) := by
  rw [f_X12_runs_19e]
  unfold f_X12_runs_19c f_X12_runs_67
  rw [if_neg (by omega), dv_bn2 e]
  rfl
/-- the class's run -/
theorem c_once0 {a0 xx st fl : Int} {y2 : Int} (g8 : V a0 8 0 = r) (g0 : V a0 0 0 = st) (g1 : V st 0 0 = fl) (e1 : f_X6_setOrderWords V r fl = (V1, 0)) (v0 : V1 a0 8 0 = r) (v7 : V1 a0 7 0 = xx) (e2 : f_X6_isSo V1 r xx c = (V2, y2)) (hy : y2 = 0) : f_X11_runOnce V a0 c = (V2, 1) := by
  unfold f_X11_runOnce
  rw [bq, g8, bq, g0, bq, g1, dv_bn2 e1, bq, v0, bq, v7, dv_bn2 e2, if_neg (fun q => q hy)]
theorem c_once1 {a0 xx st fl : Int} {y2 : Int} {V3 : dV} (g8 : V a0 8 0 = r) (g0 : V a0 0 0 = st) (g1 : V st 0 0 = fl) (e1 : f_X6_setOrderWords V r fl = (V1, 0)) (v0 : V1 a0 8 0 = r) (v7 : V1 a0 7 0 = xx) (e2 : f_X6_isSo V1 r xx c = (V2, y2)) (hy : y2 = 1) (v28 : V2 a0 8 0 = r) (v27 : V2 a0 7 0 = xx) (e4 : f_X6_reckonSums V2 r xx c = (V3, 0)) : f_X11_runOnce V a0 c = (V3, 0) := by
  unfold f_X11_runOnce
  rw [bq, g8, bq, g0, bq, g1, dv_bn2 e1, bq, v0, bq, v7, dv_bn2 e2, if_pos (by rw [hy]; decide), bq, v28, bq, v27, dv_bn2 e4, if_neg (fun q => q rfl)]
theorem c_once2 {a0 xx st fl κ : Int} {y2 : Int} {V3 : dV} {Z : dR} (g8 : V a0 8 0 = r) (g0 : V a0 0 0 = st) (g1 : V st 0 0 = fl) (e1 : f_X6_setOrderWords V r fl = (V1, 0)) (v0 : V1 a0 8 0 = r) (v7 : V1 a0 7 0 = xx) (e2 : f_X6_isSo V1 r xx c = (V2, y2)) (hy : y2 = 1) (v28 : V2 a0 8 0 = r) (v27 : V2 a0 7 0 = xx) (e4 : f_X6_reckonSums V2 r xx c = (V3, 1)) (v37 : V3 a0 7 0 = xx) (v38 : V3 a0 8 0 = r) (hm : f_X10_mark V3 xx c 0 = (κ, ())) (hZ : (if κ = 0 then dv_b2 (f_X11_doLay V3 a0 (V3 r 2 0) (V3 r 2 1) (V3 r 2 2)) (fun V112 x22 => dv_b (V112 a0 8 0) fun zz13 => dv_b (dv_u V112 zz13 1 (2) (x22)) fun V125 => f_X11_runOnce_159 (V125) (a0) (x22)) else if κ = 1 then dv_b2 (f_X11_doRoll V3 a0 (V3 r 2 0)) (fun V139 x33 => f_X11_runOnce_159 (V139) (a0) (x33)) else if κ = 2 then dv_b2 (f_X11_doMirror V3 a0) (fun V147 x36 => f_X11_runOnce_159 (V147) (a0) (x36)) else dv_b2 (f_X11_doPass V3 a0) (fun V155 x39 => f_X11_runOnce_159 (V155) (a0) (x39))) = Z) : f_X11_runOnce V a0 c = Z := by
  unfold f_X11_runOnce
  rw [bq, g8, bq, g0, bq, g1, dv_bn2 e1, bq, v0, bq, v7, dv_bn2 e2, if_pos (by rw [hy]; decide), bq, v28, bq, v27, dv_bn2 e4, if_pos (by decide), bq, v37, dv_bn2 hm, bq, v38, bq, bq, bq, bq, bq, bq, bq]
  exact hZ
/-- one run of a clause, in both -/
theorem one_run (h : RR A a V W) (hd : wd A a V W D) (hD : 0 ≤ D ∧ D ≤ 900) (c0 : 0 ≤ c) (c1 : c ≤ 11) (hoc : oc cd vl i j (V (A 11) 0) (fun k => V (A 11) 1 (c * 8 + k)) (V (A 11) 2 0) ns S0 S1 S2 T) (i0 : 0 ≤ i) (hc : ∀ i, 0 ≤ i → cd i = if B + i < P then W a 2 (80 + (B + i)) else 0) (hv : ∀ i, 0 ≤ i → vl i = W a 2 (2880 + (B + i))) (h48 : W a 48 0 = B + i) (hq : q < zz1) : ∃ (V' W' : dV) (y : Int), f_X11_runOnce V (A 0) c = (V', y) ∧ RR A a V' W' ∧ OF A a V W V' W' ∧ W' a 48 0 = B + i ∧ ((y = 1 ∧ f_X12_runs_19b (W, zz2, zz1, a, P, q) = Sum.inl (W', zz2, zz1, a, P, q + 1) ∧ wd A a V' W' (D + 1)) ∨ (y = 0 ∧ f_X12_runs_19b (W, zz2, zz1, a, P, q) = Sum.inr (W', 0))) := by
  have hA := h.1
  obtain ⟨d1, d2, d3, d4⟩ := id hd
  obtain ⟨g0, g1, -⟩ := RR_G h
  have g7 : V (A 0) 7 0 = A 11 := h.2.1.1.2.2.2.2.2.2.2.1
  have g8 : V (A 0) 8 0 = A 12 := h.2.1.1.2.2.2.2.2.2.2.2.1
  have nx : A 11 ≠ A 12 := inj_n hA (by decide) (by decide) (by decide)
  have kk := (RR_n h).1
  -- the words
  obtain ⟨V1, e1, f1, w1⟩ := c_owords (V := V) (r := A 12) (fl := A 4) (inj_n hA (by decide) (by decide) (by decide)) kk
  have hw := wo_b kk (dn := V (A 12) 1 1) (lt := V (A 12) 1 2) (by omega) (by omega)
  obtain ⟨w, hwd⟩ : ∃ w : Int → Int, w = wo (V (A 4)) (V (A 12) 1 1) (V (A 12) 1 2) := ⟨_, rfl⟩
  have ow1 : ow a w W := by rw [hwd, d1, d2]; exact RR_ow h
  rw [← hwd] at w1 hw
  have kw1 : kw_ok V1 (A 12) w := ⟨w1, hw⟩
  have F1 : ∀ b m z, ¬ (b = A 12 ∧ m ≤ 3) → V1 b m z = V b m z := fun b m z q => f1 b m z (fun e => q ⟨e.1, by rw [e.2]; decide⟩)
  have x1 : ∀ m z, V1 (A 11) m z = V (A 11) m z := fun m z => F1 _ m z (fun q => nx q.1)
  have OC : ∀ U : dV, (∀ m z, U (A 11) m z = V (A 11) m z) → oc cd vl i j (U (A 11) 0) (fun k => U (A 11) 1 (c * 8 + k)) (U (A 11) 2 0) ns S0 S1 S2 T := fun U hU => by
    rw [show U (A 11) 0 = V (A 11) 0 from funext (hU 0), show U (A 11) 1 = V (A 11) 1 from funext (hU 1), hU]
    exact hoc
  have oc1 := OC V1 x1
  obtain ⟨V2, y2, e2, f2, r2⟩ := c_isSo (x := A 11) c0 c1 (oc_T oc1) oc1.2.2.2.2.1 kw1 nx
  have F2 : ∀ b m z, ¬ (b = A 12 ∧ m ≤ 3) → V2 b m z = V b m z := fun b m z q => by
    rw [f2 b m z (fun e => q ⟨e.1, by omega⟩), F1 b m z q]
  have x2 : ∀ m z, V2 (A 11) m z = V (A 11) m z := fun m z => F2 _ m z (fun q => nx q.1)
  have k21 : ∀ z, V2 (A 12) 1 z = V1 (A 12) 1 z := fun z => f2 _ 1 z (fun q => absurd q.2 (by decide))
  -- the reference
  obtain ⟨W1, e3, f3, g3, k50, k49, r3⟩ := m_goes (live := 1) (P := P) hoc i0 hc hv ow1 h48 hw
  obtain ⟨r52, r51⟩ := r3 (by decide)
  have G1 : ∀ b m z, ¬ (b = a ∧ ((22 ≤ m ∧ m ≤ 28) ∨ (48 ≤ m ∧ m ≤ 53))) → W1 b m z = W b m z := fun b m z q => f3 b m z (fun e => q ⟨e.1, by omega⟩)
  have w48 : W1 a 48 0 = B + i := by rw [f3 a 48 0 (fun q => absurd q.2 (by omega)), h48]
  have w27 : W1 a 27 0 = W a 27 0 := f3 a 27 0 (fun q => absurd q.2 (by omega))
  have w28 : W1 a 28 0 = W a 28 0 := f3 a 28 0 (fun q => absurd q.2 (by omega))
  rw [m_run hq e3]
  have v0 : V1 (A 0) 8 0 = A 12 := by rw [F1 _ _ _ (fun q => inj_n hA (by decide) (by decide) (by decide) q.1), g8]
  have v7 : V1 (A 0) 7 0 = A 11 := by rw [F1 _ _ _ (fun q => inj_n hA (by decide) (by decide) (by decide) q.1), g7]
  by_cases hso : so (T w)
  case neg =>
    have y0 : y2 = 0 := by rcases r2 with ⟨-, q⟩ | ⟨q, -⟩; exact absurd q hso; exact q
    refine ⟨V2, W1, 1, c_once0 g8 g0 g1 e1 v0 v7 e2 y0, RR_oc h F2 G1, OF_o hA F2 G1, w48, Or.inl ⟨rfl, by rw [if_neg (fun q => hso (r52.mp q))], ?_⟩⟩
    refine ⟨?_, ?_, by omega, by omega⟩
    · rw [k21, w1 1 (by decide) (by decide), hwd, w27]; exact d1
    · rw [k21, w1 2 (by decide) (by decide), hwd, w28]; exact d2
  case pos =>
    have y1 : y2 = 1 := by rcases r2 with ⟨q, -⟩ | ⟨-, q⟩; exact q; exact absurd hso q
    have oc2 := OC V2 x2
    obtain ⟨-, -, -, h5, -, mm, mm', l1, l2, l3, hs, -⟩ := id oc2
    have h5 : V2 (A 11) 1 (c * 8 + 5) ≤ V2 (A 11) 2 0 := h5
    obtain ⟨V3, y3, e4, f4, r4⟩ := c_sumsO (x := A 11) c0 c1 hs h5 (kw_f kw1 f2) nx
    have F3 : ∀ b m z, ¬ (b = A 12 ∧ m ≤ 3) → V3 b m z = V b m z := fun b m z q => by
      rw [f4 b m z (fun e => q ⟨e.1, by omega⟩), F2 b m z q]
    have x3 : ∀ m z, V3 (A 11) m z = V (A 11) m z := fun m z => F3 _ m z (fun q => nx q.1)
    have R3 := RR_oc h F3 G1
    have O3 := OF_o hA F3 G1
    have k31 : ∀ z, V3 (A 12) 1 z = V1 (A 12) 1 z := fun z => by rw [f4 _ 1 z (fun q => absurd q.2 (by decide)), k21]
    have D3 : wd A a V3 W1 D := ⟨by rw [k31, w1 1 (by decide) (by decide), hwd, w27]; exact d1, by rw [k31, w1 2 (by decide) (by decide), hwd, w28]; exact d2, by rw [w27]; exact d3, by rw [w28]; exact d4⟩
    have v28 : V2 (A 0) 8 0 = A 12 := by rw [F2 _ _ _ (fun q => inj_n hA (by decide) (by decide) (by decide) q.1), g8]
    have v27 : V2 (A 0) 7 0 = A 11 := by rw [F2 _ _ _ (fun q => inj_n hA (by decide) (by decide) (by decide) q.1), g7]
    have v38 : V3 (A 0) 8 0 = A 12 := by rw [F3 _ _ _ (fun q => inj_n hA (by decide) (by decide) (by decide) q.1), g8]
    have v37 : V3 (A 0) 7 0 = A 11 := by rw [F3 _ _ _ (fun q => inj_n hA (by decide) (by decide) (by decide) q.1), g7]
    rw [if_pos (r52.mpr hso)]
    rcases r4 with ⟨rfl, hsm⟩ | ⟨rfl, hbr⟩
    case inr =>
      have z51 : W1 a 51 0 = 0 := by rcases r51 with ⟨-, q⟩ | ⟨q, -⟩; exact absurd hbr (smw_n q); exact q
      exact ⟨V3, W1, 0, c_once1 g8 g0 g1 e1 v0 v7 e2 y1 v28 v27 e4, R3, O3, w48, Or.inr ⟨rfl, by rw [if_pos z51]⟩⟩
    case inl =>
      obtain ⟨z51, hsm'⟩ : W1 a 51 0 ≠ 0 ∧ smw w ns S0 S1 S2 (W1 a 53) := by rcases r51 with q | ⟨-, q⟩; exact q; exact absurd q (smw_n hsm)
      have hm0 : f_X10_mark V3 (A 11) c 0 = (V (A 11) 1 (c * 8 + 0), ()) := by rw [q_mark c0 c1 (by decide) (by decide), x3]
      have hM0 : 0 ≤ V (A 11) 1 (c * 8 + 0) ∧ V (A 11) 1 (c * 8 + 0) ≤ 3 := hoc.1
      have hcd : cd i = if V (A 11) 1 (c * 8 + 0) = 0 then 21 else 23 + V (A 11) 1 (c * 8 + 0) := hoc.2.1
      have hns : ns = (if V (A 11) 1 (c * 8 + 0) = 0 then 3 else if V (A 11) 1 (c * 8 + 0) = 1 then 1 else 0) := hoc.2.2.1
      rw [if_neg z51]
      -- behind the deed
      have CL : ∀ Z, (if V (A 11) 1 (c * 8 + 0) = 0 then dv_b2 (f_X11_doLay V3 (A 0) (V3 (A 12) 2 0) (V3 (A 12) 2 1) (V3 (A 12) 2 2)) (fun V112 x22 => dv_b (V112 (A 0) 8 0) fun zz13 => dv_b (dv_u V112 zz13 1 (2) (x22)) fun V125 => f_X11_runOnce_159 (V125) ((A 0)) (x22)) else if V (A 11) 1 (c * 8 + 0) = 1 then dv_b2 (f_X11_doRoll V3 (A 0) (V3 (A 12) 2 0)) (fun V139 x33 => f_X11_runOnce_159 (V139) ((A 0)) (x33)) else if V (A 11) 1 (c * 8 + 0) = 2 then dv_b2 (f_X11_doMirror V3 (A 0)) (fun V147 x36 => f_X11_runOnce_159 (V147) ((A 0)) (x36)) else dv_b2 (f_X11_doPass V3 (A 0)) (fun V155 x39 => f_X11_runOnce_159 (V155) ((A 0)) (x39))) = Z → f_X11_runOnce V (A 0) c = Z := by
        exact fun Z hZ => c_once2 g8 g0 g1 e1 v0 v7 e2 y1 v28 v27 e4 v37 v38 hm0 hZ
      have FIN : ∀ (V4 W2 : dV) (t : Int), RR A a V4 W2 → OF A a V W V4 W2 → W2 a 48 0 = B + i → (0 ≤ t → wd A a V4 W2 D) → f_X12_obeys W1 a = (W2, t) → (∀ Z, f_X11_runOnce_159 V4 (A 0) t = Z → f_X11_runOnce V (A 0) c = Z) → ∃ (V' W' : dV) (y : Int), f_X11_runOnce V (A 0) c = (V', y) ∧ RR A a V' W' ∧ OF A a V W V' W' ∧ W' a 48 0 = B + i ∧ ((y = 1 ∧ (dv_b2 (f_X12_obeys W1 a) fun V49 x7 => if 0 ≤ x7 then Sum.inl (dv_u V49 a 27 0 (dv_add (V49 a 27 0) 1), zz2, zz1, a, P, q + 1) else (Sum.inr (V49, 0) : Sum (dV × Int × Int × Int × Int × Int) dR)) = Sum.inl (W', zz2, zz1, a, P, q + 1) ∧ wd A a V' W' (D + 1)) ∨ (y = 0 ∧ (dv_b2 (f_X12_obeys W1 a) fun V49 x7 => if 0 ≤ x7 then Sum.inl (dv_u V49 a 27 0 (dv_add (V49 a 27 0) 1), zz2, zz1, a, P, q + 1) else (Sum.inr (V49, 0) : Sum (dV × Int × Int × Int × Int × Int) dR)) = Sum.inr (W', 0))) := by
        intro V4 W2 t R O o48 hd4 hob hcl
        rw [dv_bn2 hob]
        by_cases e0 : 0 ≤ t
        · obtain ⟨p1, p2, p3, p4⟩ := one_end R (hd4 e0) hD.2 e0
          exact ⟨_, _, 1, hcl _ p1, p2, OF_t O p3, by rw [u_j (by decide)]; exact o48, Or.inl ⟨rfl, by rw [if_pos e0], p4⟩⟩
        · obtain ⟨V5, p1, p2, p3⟩ := one_bad (t := t) R (by omega)
          exact ⟨V5, W2, 0, hcl _ p1, p2, OF_t O p3, o48, Or.inr ⟨rfl, by rw [if_neg e0]⟩⟩
      have DW : ∀ {V4 W2 : dV}, DF A a V3 W1 V4 W2 → wd A a V4 W2 D ∧ W2 a 48 0 = B + i ∧ (∀ m z, V4 (A 12) m z = V3 (A 12) m z) ∧ ∀ m z, V4 (A 0) m z = V3 (A 0) m z := fun {V4 W2} hF => by
        have q12 : ∀ m z, V4 (A 12) m z = V3 (A 12) m z := fun m z => hF.1 _ m z (fun q => inj_n hA (by decide) (by decide) (by decide) q.1) (fun q => inj_n hA (by decide) (by decide) (by decide) q.1) (fun q => inj_n hA (by decide) (by decide) (by decide) q.1)
        have q0 : ∀ m z, V4 (A 0) m z = V3 (A 0) m z := fun m z => hF.1 _ m z (fun q => inj_n hA (by decide) (by decide) (by decide) q.1) (fun q => inj_n hA (by decide) (by decide) (by decide) q.1) (fun q => inj_n hA (by decide) (by decide) (by decide) q.1)
        have qw : ∀ m z, m = 27 ∨ m = 28 ∨ m = 48 → W2 a m z = W1 a m z := fun m z hm => hF.2.2.1 a m z (fun q => by have := q.2; omega)
        obtain ⟨p1, p2, p3, p4⟩ := D3
        exact ⟨⟨by rw [q12, qw 27 0 (by decide)]; exact p1, by rw [q12, qw 28 0 (by decide)]; exact p2, by rw [qw 27 0 (by decide)]; exact p3, by rw [qw 28 0 (by decide)]; exact p4⟩, by rw [qw 48 0 (by decide)]; exact w48, q12, q0⟩
      by_cases m0 : V (A 11) 1 (c * 8 + 0) = 0
      · -- LAY
        rw [if_pos m0] at hcd hns
        rw [hns] at hsm hsm'
        have s3 := (hsm.resolve_left (by decide)).resolve_left (fun q => absurd q.1 (by decide))
        have s3' := (hsm'.resolve_left (by decide)).resolve_left (fun q => absurd q.1 (by decide))
        obtain ⟨-, s0, s1, s2⟩ := s3
        obtain ⟨-, t0, t1, t2⟩ := s3'
        obtain ⟨D0, D1, D2⟩ : d_in S0 ∧ d_in S1 ∧ d_in S2 := by
          rcases hs with ⟨q, -⟩ | ⟨q, -⟩ | ⟨-, j1, j2, -, D0, D1, D2, -⟩
          · omega
          · omega
          · exact ⟨D_sum_in D0, D_sum_in D1, D_sum_in D2⟩
        have b0 := D0 w hw _ t0
        have b1 := D1 w hw _ t1
        have b2 := D2 w hw _ t2
        have q0 : V3 (A 12) 2 0 = W1 a 53 0 := Option.some.inj (s0.symm.trans t0)
        have q1 : V3 (A 12) 2 1 = W1 a 53 1 := Option.some.inj (s1.symm.trans t1)
        have q2 : V3 (A 12) 2 2 = W1 a 53 2 := Option.some.inj (s2.symm.trans t2)
        obtain ⟨V4, W2, t, p1, p2, p3, -, p5, p6⟩ := D_lay (c := sml (W1 a 53 0)) (x := sml (W1 a 53 1)) (y := sml (W1 a 53 2)) R3
        rw [c_laysml R3] at p1
        obtain ⟨d5, o5, r12, r0⟩ := DW p5
        have fV : ∀ b m z, ¬ (b = A 12 ∧ m ≤ 3) → dv_u V4 (A 12) 1 2 t b m z = V4 b m z := fun b m z q => by
          unfold dv_u; rw [if_neg (fun e => q ⟨e.1, by rw [e.2.1]; decide⟩)]
        have gW : ∀ v, ∀ b m z, ¬ (b = a ∧ ((22 ≤ m ∧ m ≤ 28) ∨ (48 ≤ m ∧ m ≤ 53))) → dv_u W2 a 28 0 v b m z = W2 b m z := fun v b m z q => by
          unfold dv_u; rw [if_neg (fun e => q ⟨e.1, by rw [e.2.1]; decide⟩)]
        refine FIN (dv_u V4 (A 12) 1 2 t) (dv_u W2 a 28 0 (if 0 ≤ t then t else W2 a 28 0)) t (RR_oc p3 fV (gW _)) (OF_t (OF_t O3 (OF_d p5)) (OF_o hA fV (gW _))) (by rw [u_j (by decide)]; exact o5) (fun ht => ?_) ?_ (fun Z hZ => CL Z ?_)
        · obtain ⟨z1, z2, z3, z4⟩ := d5
          exact ⟨by rw [u_i (by decide), u_j (by decide)]; exact z1, by rw [u_e, u_e, if_pos ht], by rw [u_j (by decide)]; exact z3, by rw [u_e, if_pos ht]; omega⟩
        · unfold f_X12_obeys f_X12_obeys_101
          rw [bq, k50, hcd, if_neg (by decide), if_neg (by decide), if_neg (by decide), bq, dv_bn2 (q_small b0.1 b0.2), bq, dv_bn2 (q_small b1.1 b1.2), bq, dv_bn2 (q_small b2.1 b2.2), dv_bn2 p2]
          by_cases e0 : 0 ≤ t
          · rw [if_pos e0, if_pos e0, bq]
          · rw [if_neg e0, if_neg e0, bq, bq]
        · rw [if_pos m0, q0, q1, q2, dv_bn2 p1, bq, r0, v38, bq]
          exact hZ
      · rw [if_neg m0] at hcd hns
        by_cases m1 : V (A 11) 1 (c * 8 + 0) = 1
        · -- ROLL
          rw [if_pos m1] at hns
          rw [hns] at hsm hsm'
          obtain ⟨-, s0⟩ := (hsm.resolve_left (by decide)).resolve_right (fun q => absurd q.1 (by decide))
          obtain ⟨-, t0⟩ := (hsm'.resolve_left (by decide)).resolve_right (fun q => absurd q.1 (by decide))
          have D0 : d_in S0 := by
            rcases hs with ⟨q, -⟩ | ⟨-, -, -, -, D0, -⟩ | ⟨q, -⟩
            · omega
            · exact D_sum_in D0
            · omega
          have b0 := D0 w hw _ t0
          have q0 : V3 (A 12) 2 0 = W1 a 53 0 := Option.some.inj (s0.symm.trans t0)
          obtain ⟨V4, W2, t, p1, p2, p3, -, p5⟩ := D_roll (c := sml (W1 a 53 0)) R3
          rw [c_rollsml R3] at p1
          obtain ⟨d5, o5, -, -⟩ := DW p5
          refine FIN V4 W2 t p3 (OF_t O3 (OF_d p5)) o5 (fun _ => d5) ?_ (fun Z hZ => CL Z ?_)
          · unfold f_X12_obeys
            rw [bq, k50, hcd, if_pos (by omega), bq, dv_bn2 (q_small b0.1 b0.2), dv_bn2 p2]
          · rw [if_neg m0, if_pos m1, q0, dv_bn2 p1]
            exact hZ
        · by_cases m2 : V (A 11) 1 (c * 8 + 0) = 2
          · obtain ⟨V4, W2, t, p1, p2, p3, -, p5⟩ := D_mirror R3
            obtain ⟨d5, o5, -, -⟩ := DW p5
            refine FIN V4 W2 t p3 (OF_t O3 (OF_d p5)) o5 (fun _ => d5) ?_ (fun Z hZ => CL Z ?_)
            · unfold f_X12_obeys
              rw [bq, k50, hcd, if_neg (by omega), if_pos (by omega), dv_bn2 p2]
            · rw [if_neg m0, if_neg m1, if_pos m2, dv_bn2 p1]
              exact hZ
          · obtain ⟨V4, W2, t, p1, p2, p3, -, p5⟩ := D_pass R3
            obtain ⟨d5, o5, -, -⟩ := DW p5
            refine FIN V4 W2 t p3 (OF_t O3 (OF_d p5)) o5 (fun _ => d5) ?_ (fun Z hZ => CL Z ?_)
            · have hM0 : 0 ≤ V (A 11) 1 (c * 8 + 0) ∧ V (A 11) 1 (c * 8 + 0) ≤ 3 := hM0
              unfold f_X12_obeys
              rw [bq, k50, hcd, if_neg (by omega), if_neg (by omega), if_pos (by omega), dv_bn2 p2]
            · rw [if_neg m0, if_neg m1, if_neg m2, dv_bn2 p1]
              exact hZ
end QTG
section QTH
variable {V V' V0 V1 V2 U U1 W W' W0 W1 W2 : dV} {a c z t k s p x y n u o r B P i j m m' live ns D zz1 zz2 v d fl : Int} {A : Nat → Int}
/-- a floor is copied -/
theorem c_copy (h : d ≠ s) : ∃ V', f_X1_copyFrom V d s = (V', 0) ∧ (∀ b m z, ¬ (b = d ∧ m ≤ 10 ∧ m ≠ 6) → V' b m z = V b m z) ∧ (∀ c, 0 ≤ c → c < 9 → V' d 0 c = V s 0 c ∧ V' d 1 c = V s 1 c ∧ V' d 2 c = V s 2 c ∧ V' d 3 c = V s 3 c ∧ V' d 4 c = V s 4 c) ∧ (V' d 5 0 = V s 5 0 ∧ V' d 5 1 = V s 5 1 ∧ V' d 5 2 = V s 5 2) ∧ V' d 7 0 = V s 7 0 ∧ V' d 8 0 = V s 8 0 ∧ V' d 9 0 = V s 9 0 ∧ V' d 10 0 = V s 10 0 := by
  have hs := Ne.symm h
  unfold f_X1_copyFrom
  rw [bq, bq, bq, bq, bq, bq, bq, bq, bq, bq, bq, bq, bq, bq]
  refine ⟨_, rfl, fun b m z hb => ?_, fun c c0 c9 => ⟨?_, ?_, ?_, ?_, ?_⟩, ⟨?_, ?_, ?_⟩, ?_, ?_, ?_, ?_⟩
  · by_cases e : b = d
    · have hm : m ≠ 10 ∧ m ≠ 9 ∧ m ≠ 8 ∧ m ≠ 7 ∧ m ≠ 5 ∧ m ≠ 4 ∧ m ≠ 3 ∧ m ≠ 2 ∧ m ≠ 1 ∧ m ≠ 0 := by
        by_cases q : m ≤ 10 ∧ m ≠ 6
        · exact absurd ⟨e, q⟩ hb
        · omega
      obtain ⟨m10, m9, m8, m7, m5, m4, m3, m2, m1, m0⟩ := hm
      rw [u_j m10, u_j m9, u_j m8, u_j m7, cp_j m5, cp_j m4, cp_j m3, cp_j m2, cp_j m1, cp_j m0]
    · rw [u_b e, u_b e, u_b e, u_b e, cp_b e, cp_b e, cp_b e, cp_b e, cp_b e, cp_b e]
  · rw [u_j (by decide), u_j (by decide), u_j (by decide), u_j (by decide), cp_j (by decide), cp_j (by decide), cp_j (by decide), cp_j (by decide), cp_j (by decide), cp_in (by omega), show (0 : Int) + (c - 0) = c by omega]
  · rw [u_j (by decide), u_j (by decide), u_j (by decide), u_j (by decide), cp_j (by decide), cp_j (by decide), cp_j (by decide), cp_j (by decide), cp_in (by omega), cp_b hs, show (0 : Int) + (c - 0) = c by omega]
  · rw [u_j (by decide), u_j (by decide), u_j (by decide), u_j (by decide), cp_j (by decide), cp_j (by decide), cp_j (by decide), cp_in (by omega), cp_b hs, cp_b hs, show (0 : Int) + (c - 0) = c by omega]
  · rw [u_j (by decide), u_j (by decide), u_j (by decide), u_j (by decide), cp_j (by decide), cp_j (by decide), cp_in (by omega), cp_b hs, cp_b hs, cp_b hs, show (0 : Int) + (c - 0) = c by omega]
  · rw [u_j (by decide), u_j (by decide), u_j (by decide), u_j (by decide), cp_j (by decide), cp_in (by omega), cp_b hs, cp_b hs, cp_b hs, cp_b hs, show (0 : Int) + (c - 0) = c by omega]
  · rw [u_j (by decide), u_j (by decide), u_j (by decide), u_j (by decide), cp_in (by decide), cp_b hs, cp_b hs, cp_b hs, cp_b hs, cp_b hs]; rfl
  · rw [u_j (by decide), u_j (by decide), u_j (by decide), u_j (by decide), cp_in (by decide), cp_b hs, cp_b hs, cp_b hs, cp_b hs, cp_b hs]; rfl
  · rw [u_j (by decide), u_j (by decide), u_j (by decide), u_j (by decide), cp_in (by decide), cp_b hs, cp_b hs, cp_b hs, cp_b hs, cp_b hs]; rfl
  · rw [u_j (by decide), u_j (by decide), u_j (by decide), u_e, cp_b hs, cp_b hs, cp_b hs, cp_b hs, cp_b hs, cp_b hs]
  · rw [u_j (by decide), u_j (by decide), u_e, u_b hs, cp_b hs, cp_b hs, cp_b hs, cp_b hs, cp_b hs, cp_b hs]
  · rw [u_j (by decide), u_e, u_b hs, u_b hs, cp_b hs, cp_b hs, cp_b hs, cp_b hs, cp_b hs, cp_b hs]
  · rw [u_e, u_b hs, u_b hs, u_b hs, cp_b hs, cp_b hs, cp_b hs, cp_b hs, cp_b hs, cp_b hs]
/-- two floors tell the same -/
def fe (φ ψ : Nat → Int → Int) : Prop := (∀ c, 0 ≤ c → c < 9 → ψ 0 c = φ 0 c ∧ ψ 1 c = φ 1 c ∧ ψ 2 c = φ 2 c ∧ ψ 3 c = φ 3 c ∧ ψ 4 c = φ 4 c) ∧ (ψ 5 0 = φ 5 0 ∧ ψ 5 1 = φ 5 1 ∧ ψ 5 2 = φ 5 2) ∧ ψ 7 0 = φ 7 0 ∧ ψ 8 0 = φ 8 0 ∧ ψ 9 0 = φ 9 0 ∧ ψ 10 0 = φ 10 0
theorem fe_kg {φ ψ : Nat → Int → Int} (h : fe φ ψ) (g : kgf φ) : kgf ψ := kg_9 g h.1 h.2.1 h.2.2.1 h.2.2.2.1 h.2.2.2.2.1 h.2.2.2.2.2
theorem fe_ef {φ ψ χ : Nat → Int → Int} (h : fe φ ψ) (e : ef φ χ) : ef ψ χ := by
  obtain ⟨h1, ⟨h2, h3, h4⟩, h5, h6, h7, h8⟩ := h
  obtain ⟨e1, ⟨e2, e3, e4⟩, e5, e6, e7, e8⟩ := e
  refine ⟨fun c c0 c9 => ?_, ⟨h2.trans e2, h3.trans e3, h4.trans e4⟩, h5.trans e5, h6.trans e6, h7.trans e7, h8.trans e8⟩
  obtain ⟨a0, a1, a2, a3, a4⟩ := h1 c c0 c9
  obtain ⟨b0, b1, b2, b3, b4⟩ := e1 c c0 c9
  exact ⟨a0.trans b0, a1.trans b1, a2.trans b2, a3.trans b3, a4.trans b4⟩
theorem fe_t {φ ψ χ : Nat → Int → Int} (h : fe φ ψ) (e : fe ψ χ) : fe φ χ := by
  obtain ⟨h1, ⟨h2, h3, h4⟩, h5, h6, h7, h8⟩ := h
  obtain ⟨e1, ⟨e2, e3, e4⟩, e5, e6, e7, e8⟩ := e
  refine ⟨fun c c0 c9 => ?_, ⟨e2.trans h2, e3.trans h3, e4.trans h4⟩, e5.trans h5, e6.trans h6, e7.trans h7, e8.trans h8⟩
  obtain ⟨a0, a1, a2, a3, a4⟩ := h1 c c0 c9
  obtain ⟨b0, b1, b2, b3, b4⟩ := e1 c c0 c9
  exact ⟨b0.trans a0, b1.trans a1, b2.trans a2, b3.trans a3, b4.trans a4⟩
theorem fe_mv {φ ψ : Nat → Int → Int} {L L' : Int → Int} {b : Int} (h : fe φ ψ) (hL : ∀ z, 0 ≤ z → z < 29 → L' (b + z) = L (b + z)) : fe (mvf φ L b) (mvf ψ L' b) := by
  obtain ⟨h1, ⟨h2, h3, h4⟩, h5, h6, h7, h8⟩ := h
  refine ⟨fun c c0 c9 => ?_, ⟨?_, ?_, ?_⟩, h5, h6, h7, hL 27 (by decide) (by decide)⟩
  · obtain ⟨a0, a1, a2, a3, a4⟩ := h1 c c0 c9
    exact ⟨a0, a1, hL c c0 (by omega), hL (9 + c) (by omega) (by omega), hL (18 + c) (by omega) (by omega)⟩
  · show (if (0 : Int) = 0 then L' (b + 28) else ψ 5 0) = (if (0 : Int) = 0 then L (b + 28) else φ 5 0)
    rw [if_pos rfl, if_pos rfl]; exact hL 28 (by decide) (by decide)
  · show (if (1 : Int) = 0 then L' (b + 28) else ψ 5 1) = (if (1 : Int) = 0 then L (b + 28) else φ 5 1)
    rw [if_neg (by decide), if_neg (by decide)]; exact h3
  · show (if (2 : Int) = 0 then L' (b + 28) else ψ 5 2) = (if (2 : Int) = 0 then L (b + 28) else φ 5 2)
    rw [if_neg (by decide), if_neg (by decide)]; exact h4
/-- the floor and what can be undone, as they were at a time before -/
theorem RR_back (h : RR A a V W) (h0 : RR A a V0 W0) (f : cf A (fun i m => i == 4 || (i == 15 && (m == 0 || m == 4))) V V') (g : wf a (fun m => m == 2 || m == 31 || m == 33) W W') (hK : ∀ z, 29 ≤ z → W' a 2 z = W a 2 z) (hK0 : ∀ z, (0 ≤ z ∧ z < 47) ∨ (65 ≤ z ∧ z < 70) → W' a 2 z = W0 a 2 z) (hf : fe (V0 (A 4)) (V' (A 4))) (hp : ∀ z, 0 ≤ z → z < 480 → V' (A 15) 0 z = V0 (A 15) 0 z) (hp4 : V' (A 15) 4 0 = V0 (A 15) 4 0) (h31 : ∀ z, 0 ≤ z → z < 480 → W' a 31 z = W0 a 31 z) (h33 : W' a 33 0 = W0 a 33 0) : RR A a V' W' := by
  obtain ⟨-, -, ⟨⟨k1, k2⟩, -, -⟩, -, -, ⟨p1, p2, p3⟩, -⟩ := id h0
  refine RR_act h (cf_m f (fun i m hL => ?_)) (wf_m g (fun m hM => ?_)) (fun z _ => f 14 1 z (by decide) (by decide) rfl) (fun z hz => hK z (by omega)) ⟨fe_ef hf (ef_k k1 (fun z hz => by rw [Int.zero_add]; exact hK0 z hz)), fe_kg hf k2⟩ ⟨by rw [hp4, h33]; exact p1, by rw [h33]; exact p2, fun v v0 v1 => ?_⟩
  · unfold L_a at hL
    simp only [Bool.or_eq_false_iff, Bool.and_eq_false_iff, beq_eq_false_iff_ne, bne_eq_false_iff_eq, ne_eq] at hL ⊢
    omega
  · unfold M_a at hM
    simp only [Bool.or_eq_false_iff, Bool.and_eq_false_iff, beq_eq_false_iff_ne, decide_eq_false_iff_not, ne_eq] at hM ⊢
    omega
  · rw [h33] at v1
    obtain ⟨⟨s1, s2, s3, s4, s5⟩, s6⟩ := p3 v v0 v1
    have e1 : ∀ z, 0 ≤ z → z < 30 → V' (A 15) 0 (30 * v + z) = V0 (A 15) 0 (30 * v + z) ∧ W' a 31 (30 * v + z) = W0 a 31 (30 * v + z) := fun z z0 z1 => ⟨hp _ (by omega) (by omega), h31 _ (by omega) (by omega)⟩
    have e0 : V' (A 15) 0 (30 * v) = V0 (A 15) 0 (30 * v) := hp _ (by omega) (by omega)
    refine ⟨⟨by rw [e0, (e1 29 (by decide) (by decide)).2]; exact s1, by rw [e0]; exact s2, by rw [(e1 1 (by decide) (by decide)).1, (e1 27 (by decide) (by decide)).2]; exact s3, by rw [(e1 2 (by decide) (by decide)).1, (e1 28 (by decide) (by decide)).2]; exact s4, fun c c0 c9 => ?_⟩, fe_kg (fe_mv hf (fun z z0 z1 => (e1 z z0 (by omega)).2)) s6⟩
    rw [(e1 (3 + c) (by omega) (by omega)).1, (e1 (12 + c) (by omega) (by omega)).1, (e1 (21 + c) (by omega) (by omega)).1, (e1 (9 + c) (by omega) (by omega)).2, (e1 (18 + c) (by omega) (by omega)).2, (e1 c (by omega) (by omega)).2]
    exact s5 c c0 c9
/-- what the class has put aside -/
def sv (A : Nat → Int) (V0 V : dV) : Prop := fe (V0 (A 4)) (V (A 16)) ∧ (∀ z, 0 ≤ z → z < 480 → V (A 15) 1 z = V0 (A 15) 0 z) ∧ V (A 15) 3 0 = V0 (A 15) 4 0
theorem c_save (hA : inj A) (hG : G A V) : ∃ V', f_X4_save V (A 15) (A 4) = (V', 0) ∧ sv A V V' ∧ ∀ b m z, ¬ (b = A 16 ∧ m ≤ 10) → ¬ (b = A 15 ∧ (m = 1 ∨ m = 3)) → V' b m z = V b m z := by
  have g2 : V (A 15) 2 0 = A 16 := hG.2.2.1
  obtain ⟨V1, e1, f1, h1⟩ := c_copy (V := V) (d := A 16) (s := A 4) (inj_n hA (by decide) (by decide) (by decide))
  have n : A 15 ≠ A 16 := inj_n hA (by decide) (by decide) (by decide)
  have n' := Ne.symm n
  have v15 : ∀ m z, V1 (A 15) m z = V (A 15) m z := fun m z => f1 _ m z (fun q => n q.1)
  have k16 : ∀ v m z, dv_u (dv_c V1 (A 15) 0 0 (A 15) 1 0 480) (A 15) 3 0 v (A 16) m z = V1 (A 16) m z := fun v m z => by rw [u_b n', cp_b n']
  unfold f_X4_save
  rw [bq, g2, dv_bn2 e1, bq, bq, bq, bq]
  refine ⟨_, rfl, ⟨?_, fun z z0 z1 => ?_, ?_⟩, fun b m z h16 h15 => ?_⟩
  · have e : dv_u (dv_c V1 (A 15) 0 0 (A 15) 1 0 480) (A 15) 3 0 (dv_c V1 (A 15) 0 0 (A 15) 1 0 480 (A 15) 4 0) (A 16) = V1 (A 16) := funext fun m => funext fun z => k16 _ m z
    rw [e]; exact h1
  · rw [u_j (by decide), cp_in (by omega), v15, show (0 : Int) + (z - 0) = z by omega]
  · rw [u_e, cp_j (by decide), v15]
  · by_cases q : b = A 15
    · have m3 : m ≠ 3 := fun w => h15 ⟨q, Or.inr w⟩
      have m1 : m ≠ 1 := fun w => h15 ⟨q, Or.inl w⟩
      rw [u_j m3, cp_j m1]
      exact f1 b m z (fun w => n (q.symm.trans w.1))
    · rw [u_b q, cp_b q]
      exact f1 b m z (fun w => h16 ⟨w.1, w.2.1⟩)
theorem c_restore (hA : inj A) (hG : G A V) (h : sv A V0 V) : ∃ V', f_X4_restore V (A 15) (A 4) = (V', 0) ∧ cf A (fun i m => i == 4 || (i == 15 && (m == 0 || m == 4))) V V' ∧ fe (V0 (A 4)) (V' (A 4)) ∧ (∀ z, 0 ≤ z → z < 480 → V' (A 15) 0 z = V0 (A 15) 0 z) ∧ V' (A 15) 4 0 = V0 (A 15) 4 0 := by
  obtain ⟨h1, h2, h3⟩ := h
  have g2 : V (A 15) 2 0 = A 16 := hG.2.2.1
  obtain ⟨V1, e1, f1, k1⟩ := c_copy (V := V) (d := A 4) (s := A 16) (inj_n hA (by decide) (by decide) (by decide))
  have n : A 15 ≠ A 4 := inj_n hA (by decide) (by decide) (by decide)
  have n' := Ne.symm n
  have v15 : ∀ m z, V1 (A 15) m z = V (A 15) m z := fun m z => f1 _ m z (fun q => n q.1)
  unfold f_X4_restore
  rw [bq, g2, dv_bn2 e1, bq, bq, bq, bq]
  refine ⟨_, rfl, fun i m z hi hm hL => ?_, ?_, fun z z0 z1 => ?_, ?_⟩
  · simp only [Bool.or_eq_false_iff, Bool.and_eq_false_iff, beq_eq_false_iff_ne, ne_eq] at hL
    have q4 : A i ≠ A 4 := fun w => by have := hA.1 i 4 hi (by decide) w; omega
    by_cases q : A i = A 15
    · have := hA.1 i 15 hi (by decide) q
      rw [u_j (by omega), cp_j (by omega)]
      exact f1 _ m z (fun w => q4 w.1)
    · rw [u_b q, cp_b q]
      exact f1 _ m z (fun w => q4 w.1)
  · have e : dv_u (dv_c V1 (A 15) 1 0 (A 15) 0 0 480) (A 15) 4 0 (dv_c V1 (A 15) 1 0 (A 15) 0 0 480 (A 15) 3 0) (A 4) = V1 (A 4) := funext fun m => funext fun z => by rw [u_b n', cp_b n']
    rw [e]
    exact fe_t h1 k1
  · rw [u_j (by decide), cp_in (by omega), v15, show (0 : Int) + (z - 0) = z by omega]
    exact h2 z z0 z1
  · rw [u_e, cp_j (by decide), v15]
    exact h3
/-- what the reference has put aside -/
theorem m_aside : ∃ W', f_X12_laysAside W a p = (W', 0) ∧ (∀ b m z, ¬ (b = a ∧ m = 5) → W' b m z = W b m z) ∧ (∀ i, 0 ≤ i → i < 29 → W' a 5 (29 * p + i) = W a 2 i) ∧ ∀ z, ¬ (29 * p ≤ z ∧ z < 29 * p + 29) → W' a 5 z = W a 5 z := by
  unfold f_X12_laysAside
  refine dv_inv (P := fun s => ∃ (U : dV) (j : Int), s = (U, a, p, j) ∧ 0 ≤ j ∧ j ≤ 29 ∧ (∀ b m z, ¬ (b = a ∧ m = 5) → U b m z = W b m z) ∧ (∀ i, 0 ≤ i → i < j → U a 5 (29 * p + i) = W a 2 i) ∧ ∀ z, ¬ (29 * p ≤ z ∧ z < 29 * p + 29) → U a 5 z = W a 5 z) (Q := fun q => ∃ W' : dV, q = (W', 0) ∧ (∀ b m z, ¬ (b = a ∧ m = 5) → W' b m z = W b m z) ∧ (∀ i, 0 ≤ i → i < 29 → W' a 5 (29 * p + i) = W a 2 i) ∧ ∀ z, ¬ (29 * p ≤ z ∧ z < 29 * p + 29) → W' a 5 z = W a 5 z) (m := fun s => (29 - s.2.2.2).toNat) ?_ _ ⟨W, 0, rfl, by decide, by decide, fun _ _ _ _ => rfl, fun i i0 i1 => absurd i1 (by omega), fun _ _ => rfl⟩
  rintro q ⟨U, j, rfl, j0, j1, hf, hi, hz⟩
  rw [f_X12_laysAside_2e]
  unfold f_X12_laysAside_2c
  by_cases e : 29 ≤ j
  · rw [if_pos e]
    exact Or.inr ⟨_, rfl, U, rfl, hf, fun i i0 i1 => hi i i0 (by omega), hz⟩
  · rw [if_neg e, bq, bq, bq, bq, bq]
    refine Or.inl ⟨_, rfl, ⟨_, j + 1, rfl, by omega, by omega, fun b m z hb => ?_, fun i i0 i1 => ?_, fun z hz' => ?_⟩, by dsimp only; omega⟩
    · by_cases q : b = a
      · rw [u_j (fun w => hb ⟨q, w⟩)]; exact hf b m z hb
      · rw [u_b q]; exact hf b m z hb
    · rw [u_if]
      by_cases q : i = j
      · subst q
        rw [if_pos rfl]; exact hf a 2 i (fun q => absurd q.2 (by decide))
      · rw [if_neg (by omega)]; exact hi i i0 (by omega)
    · rw [u_i (by omega)]; exact hz z hz'
theorem m_takes : ∃ W', f_X12_takesBack W a p = (W', 0) ∧ (∀ b m z, ¬ (b = a ∧ m = 2) → W' b m z = W b m z) ∧ (∀ i, 0 ≤ i → i < 29 → W' a 2 i = W a 5 (29 * p + i)) ∧ ∀ z, ¬ (0 ≤ z ∧ z < 29) → W' a 2 z = W a 2 z := by
  unfold f_X12_takesBack
  refine dv_inv (P := fun s => ∃ (U : dV) (j : Int), s = (U, a, p, j) ∧ 0 ≤ j ∧ j ≤ 29 ∧ (∀ b m z, ¬ (b = a ∧ m = 2) → U b m z = W b m z) ∧ (∀ i, 0 ≤ i → i < j → U a 2 i = W a 5 (29 * p + i)) ∧ ∀ z, ¬ (0 ≤ z ∧ z < 29) → U a 2 z = W a 2 z) (Q := fun q => ∃ W' : dV, q = (W', 0) ∧ (∀ b m z, ¬ (b = a ∧ m = 2) → W' b m z = W b m z) ∧ (∀ i, 0 ≤ i → i < 29 → W' a 2 i = W a 5 (29 * p + i)) ∧ ∀ z, ¬ (0 ≤ z ∧ z < 29) → W' a 2 z = W a 2 z) (m := fun s => (29 - s.2.2.2).toNat) ?_ _ ⟨W, 0, rfl, by decide, by decide, fun _ _ _ _ => rfl, fun i i0 i1 => absurd i1 (by omega), fun _ _ => rfl⟩
  rintro q ⟨U, j, rfl, j0, j1, hf, hi, hz⟩
  rw [f_X12_takesBack_2e]
  unfold f_X12_takesBack_2c
  by_cases e : 29 ≤ j
  · rw [if_pos e]
    exact Or.inr ⟨_, rfl, U, rfl, hf, fun i i0 i1 => hi i i0 (by omega), hz⟩
  · rw [if_neg e, bq, bq, bq, bq, bq]
    refine Or.inl ⟨_, rfl, ⟨_, j + 1, rfl, by omega, by omega, fun b m z hb => ?_, fun i i0 i1 => ?_, fun z hz' => ?_⟩, by dsimp only; omega⟩
    · by_cases q : b = a
      · rw [u_j (fun w => hb ⟨q, w⟩)]; exact hf b m z hb
      · rw [u_b q]; exact hf b m z hb
    · rw [u_if]
      by_cases q : i = j
      · subst q
        rw [if_pos rfl]; exact hf a 5 _ (fun q => absurd q.2 (by decide))
      · rw [if_neg (by omega)]; exact hi i i0 (by omega)
    · rw [u_i (by omega)]; exact hz z hz'
end QTH
section QTI
variable {V V' V0 V1 V2 U U1 W W' W0 W1 W2 : dV} {a c z t k s p x y u o r B P i j m m' live ns D zz1 zz2 v τ N : Int} {A : Nat → Int} {w cd vl X M g : Int → Int} {S T S0 S1 S2 : dn}
theorem oc_t (h : oc cd vl i j X M s ns S0 S1 S2 T) : 1 ≤ M 1 ∧ M 1 ≤ 20 := by
  obtain ⟨-, -, -, -, -, m, m', -, -, -, -, hM, -⟩ := h
  rcases hM with ⟨-, -, b3⟩ | ⟨-, -, -, b4, -, b6⟩
  · omega
  · omega
theorem oc_lt (h : oc cd vl i j X M s ns S0 S1 S2 T) : i < j := by
  obtain ⟨-, -, -, -, -, m, m', l1, l2, l3, -⟩ := h
  omega
theorem oc_V (h : oc cd vl i j (V (A 11) 0) (fun k => V (A 11) 1 (c * 8 + k)) (V (A 11) 2 0) ns S0 S1 S2 T) (hU : ∀ m z, V' (A 11) m z = V (A 11) m z) : oc cd vl i j (V' (A 11) 0) (fun k => V' (A 11) 1 (c * 8 + k)) (V' (A 11) 2 0) ns S0 S1 S2 T := by
  rw [show V' (A 11) 0 = V (A 11) 0 from funext (hU 0), show V' (A 11) 1 = V (A 11) 1 from funext (hU 1), hU]
  exact h
theorem OF_11 (hA : inj A) (h : OF A a V W V' W') (m : Nat) (z : Int) : V' (A 11) m z = V (A 11) m z := h.1 _ m z (fun q => inj_n hA (by decide) (by decide) (by decide) q.1) (fun q => inj_n hA (by decide) (by decide) (by decide) q.1) (fun q => inj_n hA (by decide) (by decide) (by decide) q.1) (fun q => inj_n hA (by decide) (by decide) (by decide) q.1)
/-- the text of orders in the reference -/
def ot (cd vl : Int → Int) (a B P : Int) (W : dV) : Prop := (∀ i, 0 ≤ i → cd i = if B + i < P then W a 2 (80 + (B + i)) else 0) ∧ ∀ i, 0 ≤ i → vl i = W a 2 (2880 + (B + i))
theorem ot_c (h : ot cd vl a B P W) (hB : 0 ≤ B) (h2 : ∀ z, 29 ≤ z → W' a 2 z = W a 2 z) : ot cd vl a B P W' := ⟨fun i i0 => by rw [h2 _ (by omega)]; exact h.1 i i0, fun i i0 => by rw [h2 _ (by omega)]; exact h.2 i i0⟩
/-- what the class does when a run fails -/
def cfail (A : Nat → Int) (c : Int) (V' : dV) (r : dR) : Prop := ∃ V5, f_X4_restore V' (A 15) (A 4) = (V5, 0) ∧ f_X11_answer (dv_u V5 (A 0) 17 0 c) (A 0) (-3) = r
/-- all the runs of a clause -/
theorem run_loop (c0 : 0 ≤ c) (c1 : c ≤ 11) (i0 : 0 ≤ i) (hB : 0 ≤ B) (hP : i < P) : ∀ (n : Nat) (q D : Int) (V W : dV), (n : Int) = τ - q → RR A a V W → wd A a V W D → 0 ≤ D → D + n ≤ 900 → oc cd vl i j (V (A 11) 0) (fun k => V (A 11) 1 (c * 8 + k)) (V (A 11) 2 0) ns S0 S1 S2 T → ot cd vl a B P W → W a 48 0 = B + i → ∃ (V' W' : dV), RR A a V' W' ∧ OF A a V W V' W' ∧ ((dv_lp f_X11_orders_107b (V, τ, A 0, c, q) = Sum.inl (V', A 0, c + 1) ∧ dv_lp f_X12_runs_19b (W, zz2, τ, a, P, q) = (dv_u W' a 48 0 zz2, 1) ∧ wd A a V' W' (D + n)) ∨ ((∀ r, cfail A c V' r → dv_lp f_X11_orders_107b (V, τ, A 0, c, q) = Sum.inr r) ∧ dv_lp f_X12_runs_19b (W, zz2, τ, a, P, q) = (W', 0))) := by
  intro n
  induction n with
  | zero =>
    intro q D V W hn h hd _ _ _ _ _
    refine ⟨V, W, h, OF_r, Or.inl ⟨dv_lp_e ?_, dv_lp_e ?_, by rw [show D + ((0 : Nat) : Int) = D by omega]; exact hd⟩⟩
    · rw [f_X11_orders_107e]
      unfold f_X11_orders_107c
      rw [if_pos (by omega), bq]
    · rw [f_X12_runs_19e]
      unfold f_X12_runs_19c
      rw [if_pos (by omega), bq]
  | succ n ih =>
    intro q D V W hn h hd hD hDn hoc ht h48
    obtain ⟨V1, W1, y, e1, R1, O1, k48, hy⟩ := one_run (zz1 := τ) (zz2 := zz2) (q := q) h hd ⟨hD, by omega⟩ c0 c1 hoc i0 ht.1 ht.2 h48 (by omega)
    rcases hy with ⟨rfl, e2, d2⟩ | ⟨rfl, e2⟩
    · obtain ⟨V2, W2, R2, O2, hz⟩ := ih (q + 1) (D + 1) V1 W1 (by omega) R1 d2 (by omega) (by omega) (oc_V hoc (OF_11 h.1 O1)) (ot_c ht hB O1.2.2.2) k48
      have st : f_X11_orders_107b (V, τ, A 0, c, q) = Sum.inl (V1, τ, A 0, c, q + 1) := by
        rw [f_X11_orders_107e]
        unfold f_X11_orders_107c
        rw [if_neg (by omega), dv_bn2 e1, if_pos (by decide), bq]
      refine ⟨V2, W2, R2, OF_t O1 O2, ?_⟩
      rw [dv_lp_s st, dv_lp_s e2]
      rcases hz with ⟨z1, z2, z3⟩ | hz
      · exact Or.inl ⟨z1, z2, by rw [show D + ((n + 1 : Nat) : Int) = D + 1 + (n : Int) by omega]; exact z3⟩
      · exact Or.inr hz
    · refine ⟨V1, W1, R1, O1, Or.inr ⟨fun r ⟨V5, f1, f2⟩ => dv_lp_e ?_, dv_lp_e e2⟩⟩
      obtain ⟨g0, g1, g10, -⟩ := RR_G R1
      obtain ⟨r1, r2⟩ := r
      rw [f_X11_orders_107e]
      unfold f_X11_orders_107c
      rw [if_neg (by omega), dv_bn2 e1, if_neg (fun q => q rfl), bq, g10, bq, g0, bq, g1, dv_bn2 f1, bq, dv_bn2 f2]
/-- a clause, in both -/
theorem clause_step (c0 : 0 ≤ c) (c1 : c ≤ 11) (i0 : 0 ≤ i) (hB : 0 ≤ B) (hP : B + i < P) (h : RR A a V W) (hd : wd A a V W D) (hD : 0 ≤ D) (hDn : D + 20 ≤ 900) (hoc : oc cd vl i j (V (A 11) 0) (fun k => V (A 11) 1 (c * 8 + k)) (V (A 11) 2 0) ns S0 S1 S2 T) (ht : ot cd vl a B P W) (h48 : W a 48 0 = B + i) (h3 : c < V (A 11) 3 0) : ∃ (V' W' : dV), RR A a V' W' ∧ OF A a V W V' W' ∧ ((f_X11_orders_84b (V, A 0, c) = Sum.inl (V', A 0, c + 1) ∧ f_X12_orders_95b (W, P, zz1, a, c) = Sum.inl (W', P, zz1, a, c + 1) ∧ W' a 48 0 = B + (j + 1) ∧ wd A a V' W' (D + 20)) ∨ ((∀ r, cfail A c V' r → f_X11_orders_84b (V, A 0, c) = Sum.inr r) ∧ ∀ W5, f_X12_takesBack W' a 1 = (W5, 0) → f_X12_orders_95b (W, P, zz1, a, c) = dv_lp f_X12_orders_122b (W5, zz1, a, c, 0))) := by
  have hA := h.1
  obtain ⟨d1, d2, d3, d4⟩ := id hd
  have kk := (RR_n h).1
  have g7 : V (A 0) 7 0 = A 11 := h.2.1.1.2.2.2.2.2.2.2.1
  obtain ⟨t1, t20⟩ := oc_t hoc
  have t1 : 1 ≤ V (A 11) 1 (c * 8 + 1) := t1
  have t20 : V (A 11) 1 (c * 8 + 1) ≤ 20 := t20
  have ow1 := RR_ow h
  have hw := wo_b kk (dn := W a 27 0) (lt := W a 28 0) (by omega) (by omega)
  obtain ⟨W1, e1, f1, g1, -, k49, -⟩ := m_goes (live := 0) (P := P) hoc i0 ht.1 ht.2 ow1 h48 hw
  have k49 : W1 a 49 0 = V (A 11) 1 (c * 8 + 1) := k49
  have G1 : ∀ b m z, ¬ (b = a ∧ ((22 ≤ m ∧ m ≤ 28) ∨ (48 ≤ m ∧ m ≤ 53))) → W1 b m z = W b m z := fun b m z q => f1 b m z (fun e => q ⟨e.1, by omega⟩)
  have FV : ∀ b m z, ¬ (b = A 12 ∧ m ≤ 3) → V b m z = V b m z := fun _ _ _ _ => rfl
  have R1 := RR_oc h FV G1
  have O1 := OF_o (a := a) hA FV G1
  have w27 : W1 a 27 0 = W a 27 0 := f1 a 27 0 (fun q => absurd q.2 (by omega))
  have w28 : W1 a 28 0 = W a 28 0 := f1 a 28 0 (fun q => absurd q.2 (by omega))
  have w48 : W1 a 48 0 = B + i := by rw [f1 a 48 0 (fun q => absurd q.2 (by omega)), h48]
  have D1 : wd A a V W1 D := ⟨by rw [w27]; exact d1, by rw [w28]; exact d2, by rw [w27]; exact d3, by rw [w28]; exact d4⟩
  obtain ⟨V2, W2, R2, O2, hz⟩ := run_loop (τ := V (A 11) 1 (c * 8 + 1)) (zz2 := B + (j + 1)) c0 c1 i0 hB (show i < P by omega) (V (A 11) 1 (c * 8 + 1)).toNat 0 D V W1 (by omega) R1 D1 hD (by omega) hoc (ot_c ht hB O1.2.2.2) w48
  have EV : f_X11_orders_84b (V, A 0, c) = dv_lp f_X11_orders_107b (V, V (A 11) 1 (c * 8 + 1), A 0, c, 0) := by
    rw [f_X11_orders_84e]
    unfold f_X11_orders_84c
    rw [bq, g7, bq, if_neg (by omega), bq, dv_bn2 (q_mark c0 c1 (by decide) (by decide))]
  have ER : ∀ (W3 : dV) (y : Int), dv_lp f_X12_runs_19b (W1, B + (j + 1), V (A 11) 1 (c * 8 + 1), a, P, 0) = (W3, y) → f_X12_runs W a P = (W3, y) := fun W3 y e => by
    unfold f_X12_runs
    rw [dv_bn2 e1, bq, bq, k49, g1]
    exact e
  have EW : ∀ (W3 : dV) (y : Int), f_X12_runs W a P = (W3, y) → f_X12_orders_95b (W, P, zz1, a, c) = if y = 0 then dv_b2 (f_X12_takesBack W3 a 1) fun V116 _ => dv_lp f_X12_orders_122b (V116, zz1, a, c, 0) else Sum.inl (W3, P, zz1, a, c + 1) := fun W3 y e => by
    rw [f_X12_orders_95e]
    unfold f_X12_orders_95c
    rw [bq, h48, if_neg (by omega), dv_bn2 e, dv_add_ok (by omega) (by omega) (by omega) (by omega) (by omega) (by omega)]
    rfl
  rcases hz with ⟨z1, z2, z3⟩ | ⟨z1, z2⟩
  · have GW : ∀ b m z, ¬ (b = a ∧ ((22 ≤ m ∧ m ≤ 28) ∨ (48 ≤ m ∧ m ≤ 53))) → dv_u W2 a 48 0 (B + (j + 1)) b m z = W2 b m z := fun b m z q => by
      unfold dv_u; rw [if_neg (fun e => q ⟨e.1, by rw [e.2.1]; decide⟩)]
    have FV2 : ∀ b m z, ¬ (b = A 12 ∧ m ≤ 3) → V2 b m z = V2 b m z := fun _ _ _ _ => rfl
    refine ⟨V2, dv_u W2 a 48 0 (B + (j + 1)), RR_oc R2 FV2 GW, OF_t (OF_t O1 O2) (OF_o hA FV2 GW), Or.inl ⟨by rw [EV, z1], by rw [EW _ _ (ER _ _ z2), if_neg (by decide)], u_e, ?_⟩⟩
    obtain ⟨p1, p2, p3, p4⟩ := z3
    exact ⟨by rw [u_j (by decide)]; exact p1, by rw [u_j (by decide)]; exact p2, by rw [u_j (by decide)]; omega, by rw [u_j (by decide)]; exact p4⟩
  · refine ⟨V2, W2, R2, OF_t O1 O2, Or.inr ⟨fun r hr => by rw [EV, z1 r hr], fun W5 h5 => ?_⟩⟩
    rw [EW _ _ (ER _ _ z2), if_pos rfl, dv_bn2 h5]
end QTI
section QTJ
variable {V V' V0 V1 V2 U U1 W W' W0 W1 W2 : dV} {a z t k s p x y u o r B P i j live ns D zz1 zz2 v τ N n c : Int} {A : Nat → Int} {w cd vl X M g : Int → Int} {S T S0 S1 S2 : dn} {pos : Nat → Int}
theorem tx_c_pos : ∀ (n : Nat) (i : Int), tx_c o cd vl X M s n i → ∃ pos : Nat → Int, pos 0 = 0 ∧ pos n = i ∧ (∀ c, c ≤ n → 0 ≤ pos c ∧ pos c ≤ i) ∧ ∀ c, c < n → pos c < pos (c + 1) - 1 ∧ cl_ok o cd vl (pos c) (pos (c + 1) - 1) X (fun w => M ((c : Int) * 8 + w)) s := by
  intro n
  induction n with
  | zero =>
    intro i h
    have h : i = 0 := h
    subst h
    exact ⟨fun _ => 0, rfl, rfl, fun _ _ => ⟨Int.le_refl _, Int.le_refl _⟩, fun c hc => absurd hc (by omega)⟩
  | succ n ih =>
    rintro i ⟨b, e, h1, h2, h3, h4, rfl⟩
    obtain ⟨pos, p0, pn, pb, pc⟩ := ih b h1
    refine ⟨fun k => if k ≤ n then pos k else e + 1, by dsimp only; rw [if_pos (by omega)]; exact p0, by dsimp only; rw [if_neg (by omega)], fun c hc => ?_, fun c hc => ?_⟩
    · dsimp only
      by_cases q : c ≤ n
      · rw [if_pos q]
        have := pb c q
        omega
      · rw [if_neg q]
        have := (pb n (Nat.le_refl _))
        omega
    · dsimp only
      rw [if_pos (show c ≤ n by omega)]
      by_cases q : c + 1 ≤ n
      · rw [if_pos q]
        exact pc c (by omega)
      · rw [if_neg q]
        have : c = n := by omega
        subst this
        rw [pn, show e + 1 - 1 = e by omega]
        exact ⟨h2, h3⟩
theorem tx_pos (h : tx_ok o cd vl X M s N n) : (1 ≤ n ∧ n ≤ 12) ∧ ∃ pos : Nat → Int, pos 0 = 0 ∧ pos n.toNat = N + 1 ∧ ∀ c : Nat, (c : Int) < n → 0 ≤ pos c ∧ pos c < N ∧ cl_ok o cd vl (pos c) (pos (c + 1) - 1) X (fun w => M ((c : Int) * 8 + w)) s := by
  obtain ⟨m, b, rfl, h1, h2, h3, h4⟩ := h
  obtain ⟨pos, p0, pn, pb, pc⟩ := tx_c_pos m b h2
  refine ⟨by omega, fun k => if k ≤ m then pos k else N + 1, by dsimp only; rw [if_pos (by omega)]; exact p0, by dsimp only; rw [if_neg (by omega)], fun c hc => ?_⟩
  dsimp only
  rw [if_pos (show c ≤ m by omega)]
  have hb := pb c (by omega)
  refine ⟨hb.1, by omega, ?_⟩
  by_cases q : c + 1 ≤ m
  · rw [if_pos q]
    exact (pc c (by omega)).2
  · rw [if_neg q]
    have : c = m := by omega
    subst this
    rw [pn, show N + 1 - 1 = N by omega]
    exact h4
/-- where it failed, in both -/
theorem RR_ta (h : RR A a V W) : RR A a (dv_u V (A 0) 17 0 y) (dv_u W a 47 0 y) := by
  have hA := h.1
  obtain ⟨h1, h2, h3, h4, h5, h6, h7, h8, h9, h10⟩ := h
  have f : cf A (fun i m => i == 0 && m == 17) V (dv_u V (A 0) 17 0 y) := cf_u hA (by decide) rfl
  have g : wf a (fun m => m == 47) W (dv_u W a 47 0 y) := wf_u rfl
  exact ⟨h1, G_c h2 (cf_ag f rfl), stR_c (by decide) h3 (cf_ag f rfl) (fun z _ => g 2 _ rfl), imR_c h4 (cf_ag f rfl) (fun z => g 3 z rfl) (fun z => g 4 z rfl), tpR_c h5 (cf_ag f rfl) (fun z => g 11 z rfl) (g 13 0 rfl), psR_c h6 (cf_ag f rfl) (fun z => g 31 z rfl) (g 33 0 rfl), ppR_c h7 (cf_ag f rfl) (fun z => g 54 z rfl) (g 55 0 rfl), miR_c h8 (cf_ag f rfl) (g 0 0 rfl) (fun z => g 1 z rfl), ⟨(u_j (by decide)).trans (h9.1.trans (g 14 0 rfl).symm), (u_j (by decide)).trans (h9.2.1.trans (g 6 0 rfl).symm), by rw [u_e, u_e]⟩, rdR_c h10 (fun z => f 10 1 z (by decide) (by decide) rfl) (fun z _ => f 14 1 z (by decide) (by decide) rfl) (fun z => g 7 z rfl) (fun z => g 17 z rfl)⟩
/-- what the reference has put aside -/
def mv (a : Int) (W0 W : dV) : Prop := (∀ i, 0 ≤ i → i < 29 → W a 5 (29 * 1 + i) = W0 a 2 i) ∧ (∀ z, 0 ≤ z → z < 480 → W a 32 z = W0 a 31 z) ∧ ∀ z, (29 ≤ z ∧ z < 47) ∨ (65 ≤ z ∧ z < 70) → W a 2 z = W0 a 2 z
theorem mv_c (h : mv a W0 W) (f : OF A a V W V' W') : mv a W0 W' := ⟨fun i i0 i1 => by rw [f.2.2.1 a 5 _ (fun q => absurd q.2 (by omega))]; exact h.1 i i0 i1, fun z z0 z1 => by rw [f.2.2.1 a 32 _ (fun q => absurd q.2 (by omega))]; exact h.2.1 z z0 z1, fun z hz => by rw [f.2.2.2 z (by omega)]; exact h.2.2 z hz⟩
theorem sv_c (hA : inj A) (h : sv A V0 V) (f : OF A a V W V' W') : sv A V0 V' := by
  have e16 : V' (A 16) = V (A 16) := funext fun m => funext fun z => f.1 _ m z (fun q => inj_n hA (by decide) (by decide) (by decide) q.1) (fun q => inj_n hA (by decide) (by decide) (by decide) q.1) (fun q => inj_n hA (by decide) (by decide) (by decide) q.1) (fun q => inj_n hA (by decide) (by decide) (by decide) q.1)
  have e15 : ∀ m z, m ≠ 0 → m ≠ 4 → V' (A 15) m z = V (A 15) m z := fun m z m0 m4 => f.1 _ m z (fun q => inj_n hA (by decide) (by decide) (by decide) q.1) (fun q => inj_n hA (by decide) (by decide) (by decide) q.1) (fun q => by have := q.2; omega) (fun q => inj_n hA (by decide) (by decide) (by decide) q.1)
  refine ⟨by rw [e16]; exact h.1, fun z z0 z1 => by rw [e15 1 z (by decide) (by decide)]; exact h.2.1 z z0 z1, by rw [e15 3 0 (by decide) (by decide)]; exact h.2.2⟩
theorem m_122 : ∃ W6 : dV, (∀ b m z, ¬ (b = a ∧ m = 31) → W6 b m z = W b m z) ∧ (∀ z, 0 ≤ z → z < 480 → W6 a 31 z = W a 32 z) ∧ ∀ r, f_X12_refuses (dv_u (dv_u W6 a 33 0 zz1) a 47 0 c) a (-3) = r → dv_lp f_X12_orders_122b (W, zz1, a, c, 0) = Sum.inr (Sum.inr r) := by
  refine dv_inv (b := f_X12_orders_122b) (P := fun q => ∃ (U : dV) (j : Int), q = (U, zz1, a, c, j) ∧ 0 ≤ j ∧ j ≤ 480 ∧ (∀ b m z, ¬ (b = a ∧ m = 31) → U b m z = W b m z) ∧ ∀ z, 0 ≤ z → z < j → U a 31 z = W a 32 z) (Q := fun q => ∃ W6 : dV, (∀ b m z, ¬ (b = a ∧ m = 31) → W6 b m z = W b m z) ∧ (∀ z, 0 ≤ z → z < 480 → W6 a 31 z = W a 32 z) ∧ ∀ r, f_X12_refuses (dv_u (dv_u W6 a 33 0 zz1) a 47 0 c) a (-3) = r → q = Sum.inr (Sum.inr r)) (m := fun q => (480 - q.2.2.2.2).toNat) ?_ _ ⟨W, 0, rfl, by decide, by decide, fun _ _ _ _ => rfl, fun z z0 z1 => absurd z1 (by omega)⟩
  rintro q ⟨U, j, rfl, j0, j1, hf, hz⟩
  rw [f_X12_orders_122e]
  unfold f_X12_orders_122c
  by_cases e : 480 ≤ j
  · rw [if_pos e, bq, bq]
    refine Or.inr ⟨_, rfl, U, hf, fun z z0 z1 => hz z z0 (by omega), fun r hr => ?_⟩
    obtain ⟨r1, r2⟩ := r
    rw [hr]
  · rw [if_neg e, bq, bq, bq]
    refine Or.inl ⟨_, rfl, ⟨_, j + 1, rfl, by omega, by omega, fun b m z hb => ?_, fun z z0 z1 => ?_⟩, by dsimp only; omega⟩
    · by_cases q : b = a
      · rw [u_j (fun w => hb ⟨q, w⟩)]; exact hf b m z hb
      · rw [u_b q]; exact hf b m z hb
    · rw [u_if]
      by_cases q : z = j
      · subst q
        rw [if_pos rfl]; exact hf a 32 _ (fun q => absurd q.2 (by decide))
      · rw [if_neg q]; exact hz z z0 (by omega)
/-- orders fail in both -/
theorem ord_fail (h : RR A a V W) (h0 : RR A a V0 W0) (hs : sv A V0 V) (hm : mv a W0 W) (hz : zz1 = W0 a 33 0) : ∃ (V' W' : dV) (u : Int), cfail A c V (V', u) ∧ (∃ W5, f_X12_takesBack W a 1 = (W5, 0) ∧ dv_lp f_X12_orders_122b (W5, zz1, a, c, 0) = Sum.inr (Sum.inr (W', u))) ∧ RR A a V' W' := by
  obtain ⟨V5, e1, f1, k1, k2, k3⟩ := c_restore h.1 h.2.1 hs
  obtain ⟨W5, e2, f2, l1, l2⟩ := m_takes (W := W) (a := a) (p := 1)
  obtain ⟨W6, f3, l3, e3⟩ := m_122 (W := W5) (a := a) (zz1 := zz1) (c := c)
  have w7 : ∀ m z, m ≠ 33 → dv_u W6 a 33 0 zz1 a m z = W6 a m z := fun m z hm => u_j hm
  have R : RR A a V5 (dv_u W6 a 33 0 zz1) := by
    refine RR_back h h0 f1 (fun m z hM => ?_) (fun z hz => ?_) (fun z hz => ?_) k1 k2 k3 (fun z z0 z1 => ?_) (by rw [u_e, hz])
    · simp only [Bool.or_eq_false_iff, beq_eq_false_iff_ne, ne_eq] at hM
      rw [w7 m z (by omega), f3 a m z (fun q => by have := q.2; omega), f2 a m z (fun q => by have := q.2; omega)]
    · rw [w7 2 z (by decide), f3 a 2 z (fun q => absurd q.2 (by decide)), l2 z (by omega)]
    · rw [w7 2 z (by decide), f3 a 2 z (fun q => absurd q.2 (by decide))]
      by_cases q : z < 29
      · rw [l1 z (by omega) q]
        exact hm.1 z (by omega) q
      · rw [l2 z (by omega)]
        exact hm.2.2 z (by omega)
    · rw [w7 31 z (by decide), l3 z z0 z1, f2 a 32 z (fun q => absurd q.2 (by decide))]
      exact hm.2.1 z z0 z1
  obtain ⟨V8, W8, r1, r2, r3⟩ := RR_bad (k := -3) (RR_ta (y := c) R) (Or.inr (Or.inr (Or.inl ⟨rfl, rfl, rfl⟩)))
  exact ⟨V8, W8, -3, ⟨V5, e1, r1⟩, ⟨W5, e2, e3 _ r2⟩, r3⟩
/-- all clauses -/
theorem ord_loop (h0 : RR A a V0 W0) (hz : zz1 = W0 a 33 0) (hn : n ≤ 12) (hB : 0 ≤ B) (pn : pos n.toNat = N + 1) (hN : 0 ≤ N) : ∀ (k c : Nat) (D : Int) (V W : dV), (c : Int) + k = n → RR A a V W → wd A a V W D → 0 ≤ D → D + 20 * k ≤ 900 → sv A V0 V → mv a W0 W → V (A 11) 3 0 = n → (∀ c : Nat, (c : Int) < n → 0 ≤ pos c ∧ pos c < N ∧ cl_ok 1 cd vl (pos c) (pos (c + 1) - 1) (V (A 11) 0) (fun w => V (A 11) 1 ((c : Int) * 8 + w)) (V (A 11) 2 0)) → ot cd vl a B (B + N) W → W a 48 0 = B + pos c → ∃ (V' W' : dV) (u : Int), dv_lp f_X11_orders_84b (V, A 0, (c : Int)) = (V', u) ∧ dv_lp f_X12_orders_95b (W, B + N, zz1, a, (c : Int)) = Sum.inr (W', u) ∧ RR A a V' W' := by
  intro k
  induction k with
  | zero =>
    intro c D V W hc h hd hD hDk hs hm h3 hcl ht h48
    obtain ⟨d1, d2, d3, d4⟩ := hd
    have g7 : V (A 0) 7 0 = A 11 := h.2.1.1.2.2.2.2.2.2.2.1
    have g8 : V (A 0) 8 0 = A 12 := h.2.1.1.2.2.2.2.2.2.2.2.1
    have ec : c = n.toNat := by omega
    obtain ⟨V2, W2, r1, r2, r3⟩ := RR_good (t := W a 27 0) h d3.1
    refine ⟨V2, W2, W a 27 0, dv_lp_e ?_, dv_lp_e ?_, r3⟩
    · rw [f_X11_orders_84e]
      unfold f_X11_orders_84c
      rw [bq, g7, bq, if_pos (by omega), bq, g8, bq, d1, dv_bn2 r1]
    · rw [f_X12_orders_95e]
      unfold f_X12_orders_95c
      rw [bq, h48, ec, pn, if_pos (by omega), bq, dv_bn2 r2]
  | succ k ih =>
    intro c D V W hc h hd hD hDk hs hm h3 hcl ht h48
    obtain ⟨p0, pN, hok⟩ := hcl c (by omega)
    obtain ⟨ns, S0, S1, S2, T, hoc⟩ := oc_of hok
    obtain ⟨V1, W1, R1, O1, hz1⟩ := clause_step (zz1 := zz1) (c := (c : Int)) (by omega) (by omega) p0 hB (by omega) h hd hD (by omega) hoc ht h48 (by omega)
    rcases hz1 with ⟨z1, z2, z3, z4⟩ | ⟨z1, z2⟩
    · have x1 := OF_11 h.1 O1
      obtain ⟨V2, W2, u, y1, y2, y3⟩ := ih (c + 1) (D + 20) V1 W1 (by omega) R1 z4 (by omega) (by omega) (sv_c h.1 hs O1) (mv_c hm O1) (by rw [x1]; exact h3) (fun c hc => by
        rw [show V1 (A 11) 0 = V (A 11) 0 from funext (x1 0), show V1 (A 11) 1 = V (A 11) 1 from funext (x1 1), x1]
        exact hcl c hc) (ot_c ht hB O1.2.2.2) (by rw [z3]; omega)
      exact ⟨V2, W2, u, by rw [dv_lp_s z1]; exact y1, by rw [dv_lp_s z2]; exact y2, y3⟩
    · obtain ⟨V2, W2, u, y1, ⟨W5, y2, y3⟩, y4⟩ := ord_fail (c := (c : Int)) R1 h0 (sv_c h.1 hs O1) (mv_c hm O1) hz
      exact ⟨V2, W2, u, dv_lp_e (z1 _ y1), dv_lp_e (by rw [z2 W5 y2]; exact y3), y4⟩
end QTJ
section QTK
variable {V V' V0 V1 V2 U U1 W W' W0 W1 W2 : dV} {a z t k s p x y u o r : Int} {A : Nat → Int}
theorem dv_to {σ ρ : Type} [Nonempty ρ] {b : σ → Sum σ ρ} (P E : σ → Prop) (m : σ → Nat) (h : ∀ s, P s → E s ∨ ∃ t, b s = .inl t ∧ P t ∧ m t < m s) : ∀ s, P s → ∃ t, E t ∧ P t ∧ dv_lp b s = dv_lp b t := by
  have L : ∀ (n : Nat) (s : σ), m s < n → P s → ∃ t, E t ∧ P t ∧ dv_lp b s = dv_lp b t := by
    intro n
    induction n with
    | zero => intro s hs; exact absurd hs (by omega)
    | succ n ih =>
      intro s hs hp
      rcases h s hp with he | ⟨t, e, pt, lt⟩
      · exact ⟨s, he, hp, rfl⟩
      · obtain ⟨u, eu, pu, e2⟩ := ih t (by omega) pt
        exact ⟨u, eu, pu, (dv_lp_s e).trans e2⟩
  exact fun s hp => L _ s (Nat.lt_succ_self _) hp
theorem m_27 : ∃ Wb : dV, (∀ b m z, ¬ (b = a ∧ m = 32) → Wb b m z = W b m z) ∧ (∀ z, 0 ≤ z → z < 480 → Wb a 32 z = W a 31 z) ∧ dv_lp f_X12_orders_27b (W, a, 0) = dv_lp f_X12_orders_27b (Wb, a, 480) := by
  obtain ⟨q, hE, ⟨U, j, rfl, j0, j1, hf, hz⟩, e⟩ := dv_to (b := f_X12_orders_27b) (P := fun q => ∃ (U : dV) (j : Int), q = (U, a, j) ∧ 0 ≤ j ∧ j ≤ 480 ∧ (∀ b m z, ¬ (b = a ∧ m = 32) → U b m z = W b m z) ∧ ∀ z, 0 ≤ z → z < j → U a 32 z = W a 31 z) (E := fun q => q.2.2 = 480) (m := fun q => (480 - q.2.2).toNat) (fun q hq => by
    obtain ⟨U, j, rfl, j0, j1, hf, hz⟩ := hq
    by_cases e : 480 ≤ j
    · exact Or.inl (by dsimp only; omega)
    · rw [f_X12_orders_27e]
      unfold f_X12_orders_27c
      rw [if_neg e, bq, bq, bq]
      refine Or.inr ⟨_, rfl, ⟨_, j + 1, rfl, by omega, by omega, fun b m z hb => ?_, fun z z0 z1 => ?_⟩, by dsimp only; omega⟩
      · by_cases q : b = a
        · rw [u_j (fun w => hb ⟨q, w⟩)]; exact hf b m z hb
        · rw [u_b q]; exact hf b m z hb
      · rw [u_if]
        by_cases q : z = j
        · subst q
          rw [if_pos rfl]; exact hf a 31 _ (fun q => absurd q.2 (by decide))
        · rw [if_neg q]; exact hz z z0 (by omega)) (W, a, 0) ⟨W, 0, rfl, by decide, by decide, fun _ _ _ _ => rfl, fun z z0 z1 => absurd z1 (by omega)⟩
  have hE : j = 480 := hE
  subst hE
  exact ⟨U, hf, hz, e⟩
theorem m_27e {Wb Wc : dV} {r : dR} (h1 : f_X12_lays Wb a 6 = (Wc, 0)) (h2 : dv_lp f_X12_orders_95b (dv_u (dv_u (dv_u Wc a 27 0 0) a 28 0 (-1)) a 48 0 2400, 2400 + Wc a 2 79, Wb a 33 0, a, 0) = Sum.inr r) : dv_lp f_X12_orders_27b (Wb, a, 480) = r := by
  refine dv_lp_e ?_
  rw [f_X12_orders_27e]
  unfold f_X12_orders_27c
  rw [if_pos (by decide), bq, dv_bn2 h1, bq, bq, bq, bq, bq, u_j (show (2 : Nat) ≠ 48 by decide), u_j (show (2 : Nat) ≠ 28 by decide), u_j (show (2 : Nat) ≠ 27 by decide), bq]
  exact h2
/-- orders begin, in both -/
theorem ord_begin (R : RR A a V W) (h18 : 0 ≤ W a 18 0 ∧ W a 18 0 ≤ 400) (hE : W a 15 (W a 18 0) = 0) (hT : tx_ok 1 (W a 15) (W a 16) (V (A 11) 0) (V (A 11) 1) (V (A 11) 2 0) (W a 18 0) (V (A 11) 3 0)) : ∃ (V' W' : dV) (u : Int) (V3 : dV), f_X4_save V (A 15) (A 4) = (V3, 0) ∧ V3 (A 0) 8 0 = A 12 ∧ dv_lp f_X11_orders_84b (dv_u (dv_u V3 (A 12) 1 1 0) (A 12) 1 2 (-1), A 0, 0) = (V', u) ∧ (∃ Wa, f_X12_laysAside W a 1 = (Wa, 0) ∧ dv_lp f_X12_orders_27b (Wa, a, 0) = (W', u)) ∧ RR A a V' W' := by
  have hA := R.1
  obtain ⟨V3, e1, s1, f1⟩ := c_save hA R.2.1
  obtain ⟨Wa, e2, f2, c2, -⟩ := m_aside (W := W) (a := a) (p := 1)
  obtain ⟨Wb, f3, c3, e3⟩ := m_27 (W := Wa) (a := a)
  have b18 : Wb a 18 0 = W a 18 0 := by rw [f3 a 18 0 (fun q => absurd q.2 (by decide)), f2 a 18 0 (fun q => absurd q.2 (by decide))]
  have b2 : ∀ z, Wb a 2 z = W a 2 z := fun z => by rw [f3 a 2 z (fun q => absurd q.2 (by decide)), f2 a 2 z (fun q => absurd q.2 (by decide))]
  have b31 : ∀ z, Wb a 31 z = W a 31 z := fun z => by rw [f3 a 31 z (fun q => absurd q.2 (by decide)), f2 a 31 z (fun q => absurd q.2 (by decide))]
  obtain ⟨Wc, e4, f4, c79, ctx, cz⟩ := m_lays (W := Wb) (a := a) (t := 6) (by rw [b18]; exact h18) (by decide)
  have c79 : Wc a 2 79 = W a 18 0 := by have := c79; rw [b18] at this; exact this
  have n0 : ∀ q, q < 38 → q ≠ 16 → q ≠ 15 → ∀ m z, V3 (A q) m z = V (A q) m z := fun q hq n1 n2 m z => f1 _ m z (fun w => inj_n hA hq (by decide) n1 w.1) (fun w => inj_n hA hq (by decide) n2 w.1)
  -- the class has saved
  have R3 : RR A a V3 Wb := by
    refine RR_idle R (fun i m z hi hm hL => f1 _ m z (fun q => ?_) (fun q => ?_)) (fun m z hM => ?_) (fun z _ => n0 14 (by decide) (by decide) (by decide) 1 z) (fun m z _ _ => n0 4 (by decide) (by decide) (by decide) m z) (fun z => ⟨f1 _ 0 z (fun w => inj_n hA (by decide) (by decide) (by decide) w.1) (fun w => absurd w.2 (by decide)), f1 _ 4 z (fun w => inj_n hA (by decide) (by decide) (by decide) w.1) (fun w => absurd w.2 (by decide))⟩) b2 b31 ?_
    · have := hA.1 i 16 hi (by decide) q.1
      subst this
      cases hL
    · have := hA.1 i 15 hi (by decide) q.1
      subst this
      rcases q.2 with rfl | rfl <;> cases hL
    · unfold M_a at hM
      simp only [Bool.or_eq_false_iff, Bool.and_eq_false_iff, beq_eq_false_iff_ne, decide_eq_false_iff_not, ne_eq] at hM
      rw [f3 a m z (fun q => by have := q.2; omega), f2 a m z (fun q => by have := q.2; omega)]
    · rw [f3 a 33 0 (fun q => absurd q.2 (by decide)), f2 a 33 0 (fun q => absurd q.2 (by decide))]
  -- the text is laid down
  have R4 : RR A a V3 Wc := by
    obtain ⟨-, -, ⟨-, K2, K3⟩, -⟩ := id R3
    have kz : ∀ z, z < 79 → Wc a 2 z = Wb a 2 z := fun z z1 => cz z (by omega) (by omega) (by omega)
    refine RR_st R3 cf_r (wf_b f4 rfl) (fun z hz => kz z (by omega)) (seR_c K2 rfl (fun z _ _ => ⟨rfl, rfl, rfl⟩) (fun z hz => by rw [Int.zero_add]; exact kz z (by omega))) ?_
    obtain ⟨q1, q2, q3, q4, q5⟩ := K3
    refine ⟨by rw [Int.zero_add, kz 71 (by decide)]; rw [Int.zero_add] at q1; exact q1, q2, by rw [Int.zero_add, kz 72 (by decide)]; rw [Int.zero_add] at q3; exact q3, q4, fun t ht => ?_⟩
    have q2 : 0 ≤ V3 (A 1) 5 0 ∧ V3 (A 1) 5 0 ≤ 6 := q2
    have ht' : (t : Int) < V3 (A 1) 5 0 := ht
    refine txR_k (q5 t ht) (fun z _ => rfl) (fun z _ _ => rfl) rfl rfl ?_ (fun i i0 i1 => ⟨?_, ?_⟩)
    · exact cz _ (by omega) (by omega) (by omega)
    · exact cz _ (by omega) (by omega) (by omega)
    · exact cz _ (by omega) (by omega) (by omega)
  -- the words
  have fV : ∀ b m z, ¬ (b = A 12 ∧ m ≤ 3) → dv_u (dv_u V3 (A 12) 1 1 0) (A 12) 1 2 (-1) b m z = V3 b m z := fun b m z q => by
    by_cases e : b = A 12
    · have hm : m ≠ 1 := fun w => q ⟨e, by omega⟩
      rw [u_j hm, u_j hm]
    · rw [u_b e, u_b e]
  have gW : ∀ b m z, ¬ (b = a ∧ ((22 ≤ m ∧ m ≤ 28) ∨ (48 ≤ m ∧ m ≤ 53))) → dv_u (dv_u (dv_u Wc a 27 0 0) a 28 0 (-1)) a 48 0 2400 b m z = Wc b m z := fun b m z q => by
    by_cases e : b = a
    · have h1 : m ≠ 27 := fun w => q ⟨e, by omega⟩
      have h2 : m ≠ 28 := fun w => q ⟨e, by omega⟩
      have h3 : m ≠ 48 := fun w => q ⟨e, by omega⟩
      rw [u_j h3, u_j h2, u_j h1]
    · rw [u_b e, u_b e, u_b e]
  have R5 := RR_oc R4 fV gW
  have O5 := OF_o (a := a) hA fV gW
  have d2 : ∀ z, dv_u (dv_u (dv_u Wc a 27 0 0) a 28 0 (-1)) a 48 0 2400 a 2 z = Wc a 2 z := fun z => gW a 2 z (fun q => absurd q.2 (by decide))
  have x5 : ∀ m z, dv_u (dv_u V3 (A 12) 1 1 0) (A 12) 1 2 (-1) (A 11) m z = V (A 11) m z := fun m z => by
    rw [fV _ m z (fun q => inj_n hA (by decide) (by decide) (by decide) q.1)]
    exact n0 11 (by decide) (by decide) (by decide) m z
  have ot5 : ot (fun i => if 2400 + i < 2400 + W a 18 0 then dv_u (dv_u (dv_u Wc a 27 0 0) a 28 0 (-1)) a 48 0 2400 a 2 (80 + (2400 + i)) else 0) (fun i => dv_u (dv_u (dv_u Wc a 27 0 0) a 28 0 (-1)) a 48 0 2400 a 2 (2880 + (2400 + i))) a 2400 (2400 + W a 18 0) (dv_u (dv_u (dv_u Wc a 27 0 0) a 28 0 (-1)) a 48 0 2400) := ⟨fun _ _ => rfl, fun _ _ => rfl⟩
  have hT5 : tx_ok 1 (fun i => if 2400 + i < 2400 + W a 18 0 then dv_u (dv_u (dv_u Wc a 27 0 0) a 28 0 (-1)) a 48 0 2400 a 2 (80 + (2400 + i)) else 0) (fun i => dv_u (dv_u (dv_u Wc a 27 0 0) a 28 0 (-1)) a 48 0 2400 a 2 (2880 + (2400 + i))) (V (A 11) 0) (V (A 11) 1) (V (A 11) 2 0) (W a 18 0) (V (A 11) 3 0) := by
    refine cg_tx ⟨fun z z0 z1 => ?_, fun z z0 z1 => ?_⟩ hT
    · dsimp only
      by_cases q : z < W a 18 0
      · rw [if_pos (by omega), d2]
        have := (ctx z z0 (by rw [b18]; exact q)).1
        rw [f3 a 15 z (fun q => absurd q.2 (by decide)), f2 a 15 z (fun q => absurd q.2 (by decide))] at this
        rw [← this]
        congr 1; omega
      · rw [if_neg (by omega), show z = W a 18 0 by omega, hE]
    · dsimp only
      rw [d2]
      have := (ctx z z0 (by rw [b18]; exact z1)).2
      rw [f3 a 16 z (fun q => absurd q.2 (by decide)), f2 a 16 z (fun q => absurd q.2 (by decide))] at this
      rw [← this]
      congr 1; omega
  obtain ⟨hn, pos, p0, pn, pc⟩ := tx_pos hT5
  have D5 : wd A a (dv_u (dv_u V3 (A 12) 1 1 0) (A 12) 1 2 (-1)) (dv_u (dv_u (dv_u Wc a 27 0 0) a 28 0 (-1)) a 48 0 2400) 0 := by
    refine ⟨?_, ?_, ?_, ?_⟩
    · rw [u_i (by decide), u_e, u_j (by decide), u_j (by decide), u_e]
    · rw [u_e, u_j (by decide), u_e]
    · rw [u_j (by decide), u_j (by decide), u_e]; decide
    · rw [u_j (by decide), u_e]; decide
  have M5 : mv a W (dv_u (dv_u (dv_u Wc a 27 0 0) a 28 0 (-1)) a 48 0 2400) := by
    refine ⟨fun i i0 i1 => ?_, fun z z0 z1 => ?_, fun z hz => ?_⟩
    · rw [gW a 5 _ (fun q => absurd q.2 (by decide)), f4 a 5 _ (fun q => absurd q.2 (by decide)), f3 a 5 _ (fun q => absurd q.2 (by decide))]
      exact c2 i i0 i1
    · rw [gW a 32 _ (fun q => absurd q.2 (by decide)), f4 a 32 _ (fun q => absurd q.2 (by decide)), c3 z z0 z1]
      exact f2 a 31 z (fun q => absurd q.2 (by decide))
    · rw [d2, cz z (by omega) (by omega) (by omega), b2]
  obtain ⟨V', W', u, z1, z2, z3⟩ := ord_loop (zz1 := Wb a 33 0) (n := V (A 11) 3 0) (B := 2400) (N := W a 18 0) (pos := pos) R (by rw [f3 a 33 0 (fun q => absurd q.2 (by decide)), f2 a 33 0 (fun q => absurd q.2 (by decide))]) hn.2 (by decide) pn h18.1 (V (A 11) 3 0).toNat 0 0 _ _ (by omega) R5 D5 (by decide) (by omega) (sv_c hA s1 O5) M5 (x5 3 0) (fun c hc => by
    rw [show dv_u (dv_u V3 (A 12) 1 1 0) (A 12) 1 2 (-1) (A 11) 0 = V (A 11) 0 from funext (x5 0), show dv_u (dv_u V3 (A 12) 1 1 0) (A 12) 1 2 (-1) (A 11) 1 = V (A 11) 1 from funext (x5 1), x5]
    exact pc c hc) ot5 (by rw [u_e, p0]; rfl)
  refine ⟨V', W', u, V3, e1, ?_, z1, ⟨Wa, e2, ?_⟩, z3⟩
  · rw [n0 0 (by decide) (by decide) (by decide)]
    exact R.2.1.1.2.2.2.2.2.2.2.2.1
  · rw [e3]
    exact m_27e e4 (by rw [c79]; exact z2)
theorem L_orders (h : RR A a V W) : ∃ V' W' u, f_X11_orders V (A 0) = (V', u) ∧ f_X12_orders W a = (W', u) ∧ RR A a V' W' := by
  have hA := h.1
  have R0 := RR_ta (y := -1) h
  obtain ⟨V0, hV0⟩ : ∃ V0, V0 = dv_u V (A 0) 17 0 (-1) := ⟨_, rfl⟩
  obtain ⟨W0, hW0⟩ : ∃ W0, W0 = dv_u W a 47 0 (-1) := ⟨_, rfl⟩
  rw [← hV0, ← hW0] at R0
  obtain ⟨-, -, -, g5, -⟩ := RR_G R0
  obtain ⟨-, ⟨⟨-, -, -, -, -, -, g6, g7, -⟩, -⟩, -, -, ⟨t1, t2, t3⟩, -, -, -, -, r1, r2, r3⟩ := id R0
  have n11 : A 11 ≠ A 10 := inj_n hA (by decide) (by decide) (by decide)
  obtain ⟨V1, y, W1, y', e1, e2, f1, f2, f3, f4, f5, f6⟩ := rd_whole (V := V0) (W := W0) (r := A 10) (x := A 11) (tp := A 9) (o := 1) (a := a) n11 (inj_n hA (by decide) (by decide) (by decide)) (inj_n hA (by decide) (by decide) (by decide)) (Or.inr rfl) t1 t2 t3 r2 r1
  have R := RR_read (J := 11) R0 (Or.inl rfl) f1 f2 f3 f4 f5
  have p0 : ∀ m z, V1 (A 0) m z = V0 (A 0) m z := fun m z => f1 _ m z (fun q => inj_n hA (by decide) (by decide) (by decide) q.1) (fun q => inj_n hA (by decide) (by decide) (by decide) q.1)
  have c5 : dv_u V1 (A 0) 15 0 y (A 0) 5 0 = A 9 := by rw [u_j (by decide), p0, g5]
  have c15 : dv_u (dv_u V1 (A 0) 15 0 y) (A 9) 1 0 0 (A 0) 15 0 = y := by rw [u_b (inj_n hA (by decide) (by decide) (by decide)), u_e]
  have cx : ∀ m z, dv_u (dv_u V1 (A 0) 15 0 y) (A 9) 1 0 0 (A 11) m z = V1 (A 11) m z := fun m z => by rw [u_b (inj_n hA (by decide) (by decide) (by decide)), u_b (inj_n hA (by decide) (by decide) (by decide))]
  obtain ⟨q0, q1, q10, -⟩ := RR_G R
  by_cases ey : y = -1
  case neg =>
    rcases f6 with ⟨q, -⟩ | ⟨-, ey'⟩
    · exact absurd q ey
    obtain ⟨V2, W2, r1, r2, r3⟩ := RR_bad (k := -6) R (Or.inr (Or.inr (Or.inr (Or.inr ⟨rfl, rfl, rfl⟩))))
    refine ⟨V2, W2, -6, ?_, ?_, r3⟩
    · unfold f_X11_orders
      rw [bq, ← hV0, bq, g6, bq, g5, bq, g7, dv_bn2 e1, bq, bq, c5, bq, bq, c15, if_neg ey, dv_bn2 r1]
    · unfold f_X12_orders
      rw [bq, ← hW0, dv_bn2 e2, if_neg (fun q => q ey'), dv_bn2 r2]
  case pos =>
    have f7 := f6.resolve_right (fun q => q.1 ey)
    obtain ⟨-, ey', hs0, hN, hE, hT⟩ := f7
    obtain ⟨V', W', u, V3, z1, z2, z3, ⟨Wa, z4, z5⟩, z6⟩ := ord_begin R hN hE (by
      rw [show dv_u (dv_u V1 (A 0) 15 0 y) (A 9) 1 0 0 (A 11) 0 = V1 (A 11) 0 from funext (cx 0), show dv_u (dv_u V1 (A 0) 15 0 y) (A 9) 1 0 0 (A 11) 1 = V1 (A 11) 1 from funext (cx 1), cx, cx]
      exact hT)
    refine ⟨V', W', u, ?_, ?_, z6⟩
    · have c8 : dv_u V3 (A 12) 1 1 0 (A 0) 8 0 = A 12 := by rw [u_b (inj_n hA (by decide) (by decide) (by decide)), z2]
      unfold f_X11_orders
      rw [bq, ← hV0, bq, g6, bq, g5, bq, g7, dv_bn2 e1, bq, bq, c5, bq, bq, c15, if_pos ey, bq, q10, bq, q0, bq, q1, dv_bn2 z1, bq, z2, bq, bq, c8, bq]
      exact z3
    · unfold f_X12_orders
      rw [bq, ← hW0, dv_bn2 e2, if_pos (by rw [ey']; decide), dv_bn2 z4]
      exact z5
end QTK
