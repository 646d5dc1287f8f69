section QKS
variable {V V' V1 : dV} {r x to t i : Int} {w : Int → Int}
/-- of the reckoner only the stack from t on and "broken" have changed -/
def kx_fr (r t : Int) (V V' : dV) : Prop := (∀ b j z, ¬ (b = r ∧ (j = 0 ∨ j = 3)) → V' b j z = V b j z) ∧ ∀ z, z < t → V' r 0 z = V r 0 z
theorem kx_r : kx_fr r t V V := ⟨fun _ _ _ _ => rfl, fun _ _ => rfl⟩
theorem kx_t (h : kx_fr r t V V') (h1 : kx_fr r t V' V1) : kx_fr r t V V1 := ⟨fun b j z k => (h1.1 b j z k).trans (h.1 b j z k), fun z hz => (h1.2 z hz).trans (h.2 z hz)⟩
theorem kx_m {t' : Int} (h : kx_fr r t' V V') (ht : t ≤ t') : kx_fr r t V V' := ⟨h.1, fun z hz => h.2 z (by omega)⟩
theorem kx_3 {y : Int} : kx_fr r t V (dv_u V r 3 0 y) := ⟨fun b j z k => by unfold dv_u; rw [if_neg (fun q => k ⟨q.1, Or.inr q.2.1⟩)], fun z _ => by unfold dv_u; rw [if_neg (fun q => absurd q.2.1 (by decide))]⟩
theorem kx_0 {z0 y : Int} (h : t ≤ z0) : kx_fr r t V (dv_u V r 0 z0 y) := ⟨fun b j z k => by unfold dv_u; rw [if_neg (fun q => k ⟨q.1, Or.inl q.2.1⟩)], fun z hz => by unfold dv_u; rw [if_neg (fun q => by have := q.2.2; omega)]⟩
/-- the reckoner r may reckon the codes p .. q of the text x: words w, t on its stack, h more needed -/
def kx_cx (X : Int → Int) (p q h : Int) (w : Int → Int) (V : dV) (r x to t : Int) : Prop := (∀ i, p ≤ i → i < q → V x 0 i = X i) ∧ (q ≤ V x 2 0 ∧ q ≤ to) ∧ (0 ≤ t ∧ t + h ≤ 62) ∧ V r 3 0 = 0 ∧ (∀ k, 0 ≤ k → k < 23 → V r 1 k = w k) ∧ x ≠ r
theorem kx_cx_f {X : Int → Int} {p q h p' h' t' : Int} (c : kx_cx X p q h w V r x to t) (f : kx_fr r t V V') (h3 : V' r 3 0 = 0) (hp : p ≤ p') (ht : 0 ≤ t' ∧ t' + h' ≤ 62) : kx_cx X p' q h' w V' r x to t' := by
  obtain ⟨h1, h2, -, -, h5, h6⟩ := c
  have k : ∀ j z, V' x j z = V x j z := fun j z => f.1 x j z (fun q => h6 q.1)
  refine ⟨fun i i0 i1 => ?_, ?_, ht, h3, fun n n0 n1 => ?_, h6⟩
  · rw [k]; exact h1 i (by omega) i1
  · rw [k]; exact h2
  · rw [f.1 r 1 n (fun q => q.2.elim (by decide) (by decide))]; exact h5 n n0 n1
theorem kx_cx_s {X : Int → Int} {p q h q' h' : Int} (c : kx_cx X p q h w V r x to t) (hq : q' ≤ q) (hh : h' ≤ h) : kx_cx X p q' h' w V r x to t := by
  obtain ⟨h1, h2, h3, h4⟩ := c
  exact ⟨fun i i0 i1 => h1 i i0 (by omega), by omega, by omega, h4⟩
/-- the codes p .. q push what A says, or end broken; h is as high as the stack goes -/
def K_seg (X : Int → Int) (p q : Int) (A : dn) (h : Int) : Prop := p < q ∧ 1 ≤ h ∧ ∀ (V : dV) (r x to t : Int) (w : Int → Int), kx_cx X p q h w V r x to t → (∀ k, -2147483648 ≤ w k ∧ w k ≤ 2147483647) → match A w with
  | some v => ∃ V' : dV, dv_lp f_X6_reckon_11b (V, r, x, to, t, p) = dv_lp f_X6_reckon_11b (V', r, x, to, t + 1, q) ∧ kx_fr r t V V' ∧ V' r 3 0 = 0 ∧ V' r 0 t = v
  | none => ∃ (V' : dV) (y : Int), dv_lp f_X6_reckon_11b (V, r, x, to, t, p) = (V', y) ∧ kx_fr r t V V' ∧ V' r 3 0 ≠ 0
/-- a push -/
theorem k_push {X : Int → Int} {p h : Int} (c : kx_cx X p (p + 1) h w V r x to t) (hh : 1 ≤ h) (hc : X p < 3000) (h23 : X p < 2023) : dv_lp f_X6_reckon_11b (V, r, x, to, t, p) = dv_lp f_X6_reckon_11b (dv_u (dv_u V r 3 0 0) r 0 t (if 2000 ≤ X p then w (X p - 2000) else X p), r, x, to, t + 1, p + 1) := by
  obtain ⟨h1, h2, h3, h4, h5, h6⟩ := c
  refine dv_lp_s ?_
  simp only [f_X6_reckon_11e, f_X6_reckon_11c, f_X6_reckon_121, f_X6_reckon_538, bq]
  rw [if_neg (by omega), if_neg (by omega), if_neg (fun q => q h4), h1 p (by omega) (by omega), if_neg (by omega), if_neg (by omega), if_pos (by omega)]
  by_cases e : 2000 ≤ X p
  · rw [if_pos (by omega), if_pos e]
    have : dv_u V r 3 0 0 r 1 (X p - 2000) = w (X p - 2000) := by
      unfold dv_u
      rw [if_neg (fun q => absurd q.2.1 (by decide))]
      exact h5 _ (by omega) (by omega)
    rw [this]
  · rw [if_neg (by omega), if_neg e]
theorem K_num {X : Int → Int} {p n : Int} (h : X p = n) (h1 : n < 2000) : K_seg X p (p + 1) (fun _ => some n) 1 := by
  refine ⟨by omega, by omega, fun V r x to t w c _ => ?_⟩
  refine ⟨_, k_push c (by omega) (by omega) (by omega), kx_t kx_3 (kx_0 (by omega)), ?_, ?_⟩
  · unfold dv_u; rw [if_neg (fun q => absurd q.2.1 (by decide)), if_pos ⟨rfl, rfl, rfl⟩]
  · unfold dv_u; rw [if_pos ⟨rfl, rfl, rfl⟩, if_neg (by omega), h]
theorem K_word {X : Int → Int} {p k : Int} (h : X p = 2000 + k) (h0 : 0 ≤ k) (h1 : k < 23) : K_seg X p (p + 1) (fun w => some (w k)) 1 := by
  refine ⟨by omega, by omega, fun V r x to t w c _ => ?_⟩
  refine ⟨_, k_push c (by omega) (by omega) (by omega), kx_t kx_3 (kx_0 (by omega)), ?_, ?_⟩
  · unfold dv_u; rw [if_neg (fun q => absurd q.2.1 (by decide)), if_pos ⟨rfl, rfl, rfl⟩]
  · unfold dv_u; rw [if_pos ⟨rfl, rfl, rfl⟩, if_pos (by omega), h]; congr 1; omega
/-- what stands broken ends -/
theorem k_brk {p : Int} (h : V r 3 0 ≠ 0) : ∃ y : Int, dv_lp f_X6_reckon_11b (V, r, x, to, t, p) = (V, y) := by
  refine ⟨V r 0 0, dv_lp_e ?_⟩
  simp only [f_X6_reckon_11e, f_X6_reckon_11c, bq]
  by_cases e : to ≤ p
  · rw [if_pos e]
  · rw [if_neg e]
    by_cases e1 : V x 2 0 ≤ p
    · rw [if_pos e1]
    · rw [if_neg e1, if_pos h]
/-- behind an operation: its value v stands at place z, or all is broken -/
theorem k_500 {T p v : Int} : f_X6_reckon_500 V T r x to p v = Sum.inl (dv_u (dv_u V r 3 0 (if d_bd v = none then 1 else 0)) r 0 (T - 1) v, r, x, to, T, p + 1) := by
  unfold f_X6_reckon_500 f_X6_reckon_519 f_X6_reckon_524 f_X6_reckon_538
  simp only [bq]
  by_cases e : 0 < dv_lcmp v 1000000000
  · have := lcmp_gt.mp e
    rw [if_pos e, if_pos (by unfold d_bd; rw [if_pos (by omega)])]
  · have h1 := mt lcmp_gt.mpr e
    rw [if_neg e]
    by_cases e1 : 0 ≤ dv_lcmp v (-1000000000)
    · have h2 := lcmp_ge.mp e1
      rw [if_pos e1, if_neg (by unfold d_bd; rw [if_neg (by omega)]; exact fun q => by cases q)]
    · have h2 := mt lcmp_ge.mpr e1
      rw [if_neg e1, if_pos (by unfold d_bd; rw [if_pos (by omega)])]
end QKS
section QKO
variable {V V' V1 : dV} {r x to t i : Int} {w : Int → Int}
def k_val (c a b : Int) : Int := if c = 3000 then a + b else if c = 3001 then a - b else if c = 3002 then a * b else if c = 3003 then (if b = 0 then 1000000001 else a.tdiv b) else if c = 3004 then (if b = 0 then 1000000001 else a.tmod b) else if c = 3005 then (if a < b then 1 else 0) else if c = 3006 then (if b < a then 1 else 0) else if a = b then 1 else 0
/-- as far as the operation, unbroken, with at least two on the stack -/
theorem k_to {T q c : Int} (h1 : q < to) (h2 : q < V x 2 0) (h3 : V r 3 0 = 0) (hc : V x 0 q = c) (c0 : 3000 ≤ c) (hT : 1 ≤ T) (hT2 : 2 ≤ T ∨ 3008 ≤ c) : f_X6_reckon_11b (V, r, x, to, T, q) = f_X6_reckon_156 V c r x to T q := by
  rw [f_X6_reckon_11e]
  unfold f_X6_reckon_11c
  rw [if_neg (by omega), bq, if_neg (by omega), bq, if_neg (fun k => k h3), bq, hc, if_pos c0, if_neg (by omega)]
  by_cases e : 2 ≤ T
  · rw [if_pos e]
  · rw [if_neg e, if_pos (by omega)]
theorem k_op {T q c a b : Int} (h1 : q < to) (h2 : q < V x 2 0) (h3 : V r 3 0 = 0) (hc : V x 0 q = c) (c0 : 3000 ≤ c) (c7 : c ≤ 3007) (hT : 2 ≤ T) (ha : V r 0 (T - 2) = a) (hb : V r 0 (T - 1) = b) (ba : -2147483648 ≤ a ∧ a ≤ 2147483647) (bb : -2147483648 ≤ b ∧ b ≤ 2147483647) : f_X6_reckon_11b (V, r, x, to, T, q) = Sum.inl (dv_u (dv_u V r 3 0 (if d_bd (k_val c a b) = none then 1 else 0)) r 0 (T - 2) (k_val c a b), r, x, to, T - 1, q + 1) := by
  rw [k_to h1 h2 h3 hc c0 (by omega) (Or.inl hT)]
  unfold f_X6_reckon_156
  rw [if_neg (by omega), if_pos (by omega), if_neg (by omega)]
  unfold f_X6_reckon_289 f_X6_reckon_412 f_X6_reckon_435 f_X6_reckon_453 f_X6_reckon_471 f_X6_reckon_489
  rw [bq, bq, bq, bq, show T - 1 - 1 = T - 2 by omega, ha, hb]
  have lba : lb a := by unfold lb; omega
  have lbb : lb b := by unfold lb; omega
  have E : ∀ v : Int, v = k_val c a b → f_X6_reckon_500 V (T - 1) r x to q v = Sum.inl (dv_u (dv_u V r 3 0 (if d_bd (k_val c a b) = none then 1 else 0)) r 0 (T - 2) (k_val c a b), r, x, to, T - 1, q + 1) := by
    intro v hv
    rw [k_500, hv, show T - 1 - 1 = T - 2 by omega]
  unfold k_val at E ⊢
  by_cases e0 : c = 3000
  · rw [if_pos e0, bq]
    exact E _ (by rw [if_pos e0, dv_ladd_ok lba lbb])
  · rw [if_neg e0]
    by_cases e1 : c = 3001
    · rw [if_pos e1, bq]
      exact E _ (by rw [if_neg e0, if_pos e1, dv_lsub_ok lba lbb])
    · rw [if_neg e1]
      by_cases e2 : c = 3002
      · rw [if_pos e2, bq]
        exact E _ (by rw [if_neg e0, if_neg e1, if_pos e2, dv_lmul_ok ba bb])
      · rw [if_neg e2]
        by_cases e3 : c = 3003
        · rw [if_pos e3, bq]
          by_cases k : dv_lcmp b 0 ≠ 0
          · rw [if_pos k, bq]
            have k' : b ≠ 0 := fun q => k (lcmp_eq.mpr q)
            exact E _ (by rw [if_neg e0, if_neg e1, if_neg e2, if_pos e3, if_neg k', dv_ldiv_ok ba bb])
          · rw [if_neg k]
            have k' : b = 0 := lcmp_eq.mp (by omega)
            exact E _ (by rw [if_neg e0, if_neg e1, if_neg e2, if_pos e3, if_pos k'])
        · rw [if_neg e3]
          by_cases e4 : c = 3004
          · rw [if_pos e4, bq]
            by_cases k : dv_lcmp b 0 ≠ 0
            · rw [if_pos k, bq]
              have k' : b ≠ 0 := fun q => k (lcmp_eq.mpr q)
              exact E _ (by rw [if_neg e0, if_neg e1, if_neg e2, if_neg e3, if_pos e4, if_neg k', dv_lrem_ok ba bb])
            · rw [if_neg k]
              have k' : b = 0 := lcmp_eq.mp (by omega)
              exact E _ (by rw [if_neg e0, if_neg e1, if_neg e2, if_neg e3, if_pos e4, if_pos k'])
          · rw [if_neg e4]
            by_cases e5 : c = 3005
            · rw [if_pos e5, bq]
              by_cases k : 0 ≤ dv_lcmp a b
              · rw [if_pos k]
                have k' := lcmp_ge.mp k
                exact E _ (by rw [if_neg e0, if_neg e1, if_neg e2, if_neg e3, if_neg e4, if_pos e5, if_neg (by omega)])
              · rw [if_neg k]
                have k' := mt lcmp_ge.mpr k
                exact E _ (by rw [if_neg e0, if_neg e1, if_neg e2, if_neg e3, if_neg e4, if_pos e5, if_pos (by omega)])
            · rw [if_neg e5]
              by_cases e6 : c = 3006
              · rw [if_pos e6, bq]
                by_cases k : dv_lcmp a b ≤ 0
                · rw [if_pos k]
                  have k' := lcmp_le.mp k
                  exact E _ (by rw [if_neg e0, if_neg e1, if_neg e2, if_neg e3, if_neg e4, if_neg e5, if_pos e6, if_neg (by omega)])
                · rw [if_neg k]
                  have k' := mt lcmp_le.mpr k
                  exact E _ (by rw [if_neg e0, if_neg e1, if_neg e2, if_neg e3, if_neg e4, if_neg e5, if_pos e6, if_pos (by omega)])
              · rw [if_neg e6, if_pos (by omega), bq]
                by_cases k : dv_lcmp a b ≠ 0
                · rw [if_pos k]
                  have k' : ¬ a = b := fun q => k (lcmp_eq.mpr q)
                  exact E _ (by rw [if_neg e0, if_neg e1, if_neg e2, if_neg e3, if_neg e4, if_neg e5, if_neg e6, if_neg k'])
                · rw [if_neg k]
                  have k' : a = b := lcmp_eq.mp (by omega)
                  exact E _ (by rw [if_neg e0, if_neg e1, if_neg e2, if_neg e3, if_neg e4, if_neg e5, if_neg e6, if_pos k'])
/-- two operands, one behind the other, and an operation -/
theorem K_two {X : Int → Int} {p m q h1 h2 c : Int} {A C R : dn} (hA : K_seg X p m A h1) (hC : K_seg X m q C h2) (hc : X q = c) (c0 : 3000 ≤ c) (c7 : c ≤ 3007) (iA : d_in A) (iC : d_in C)
    (hR : ∀ (w : Int → Int), (A w = none → R w = none) ∧ ∀ a, A w = some a → (C w = none → R w = none) ∧ ∀ b, C w = some b → R w = d_bd (k_val c a b)) {h : Int} (k1 : h1 ≤ h) (k2 : h2 + 1 ≤ h) : K_seg X p (q + 1) R h := by
  obtain ⟨p1, g1, fA⟩ := hA
  obtain ⟨p2, g2, fC⟩ := hC
  refine ⟨by omega, by omega, fun V r x to t w cx hw => ?_⟩
  have RA := (hR w).1
  have RC := (hR w).2
  have cA := fA V r x to t w (kx_cx_s (q' := m) cx (by omega) k1) hw
  cases eA : A w with
  | none =>
    rw [eA] at cA
    rw [RA eA]
    exact cA
  | some a =>
    rw [eA] at cA
    obtain ⟨V1, e1, f1, b1, s1⟩ := cA
    have cx1 : kx_cx X m (q + 1) h2 w V1 r x to (t + 1) := kx_cx_f cx f1 b1 (by omega) (by have := cx.2.2.1; omega)
    have cC := fC V1 r x to (t + 1) w (kx_cx_s (q' := q) cx1 (by omega) (by omega)) hw
    cases eC : C w with
    | none =>
      rw [eC] at cC
      rw [(RC a eA).1 eC]
      obtain ⟨V2, y, e2, f2, b2⟩ := cC
      exact ⟨V2, y, by rw [e1, e2], kx_t f1 (kx_m f2 (by omega)), b2⟩
    | some b =>
      rw [eC] at cC
      obtain ⟨V2, e2, f2, b2, s2⟩ := cC
      have f12 := kx_t f1 (kx_m f2 (show t ≤ t + 1 by omega))
      have cx2 : kx_cx X q (q + 1) 0 w V2 r x to (t + 2) := kx_cx_f cx1 (t' := t + 2) f2 b2 (by omega) (by have := cx1.2.2.1; omega)
      have op := k_op (V := V2) (r := r) (x := x) (to := to) (T := t + 2) (q := q) (c := c) (a := a) (b := b) (by have := cx2.2.1; omega) (by have := cx2.2.1; omega) b2 (by rw [cx2.1 q (by omega) (by omega), hc]) c0 c7 (by have := cx.2.2.1; omega) (by rw [show t + 2 - 2 = t by omega, f2.2 t (by omega), s1]) (by rw [show t + 2 - 1 = t + 1 by omega, s2]) (iA w hw a eA) (iC w hw b eC)
      rw [show t + 2 - 2 = t by omega, show t + 2 - 1 = t + 1 by omega] at op
      have ee : dv_lp f_X6_reckon_11b (V, r, x, to, t, p) = dv_lp f_X6_reckon_11b (V2, r, x, to, t + 2, q) := by rw [e1, e2, show t + 1 + 1 = t + 2 by omega]
      rw [(RC a eA).2 b eC]
      have hf : kx_fr r t V (dv_u (dv_u V2 r 3 0 (if d_bd (k_val c a b) = none then 1 else 0)) r 0 t (k_val c a b)) := kx_t f12 (kx_t kx_3 (kx_0 (by omega)))
      have h3 : dv_u (dv_u V2 r 3 0 (if d_bd (k_val c a b) = none then 1 else 0)) r 0 t (k_val c a b) r 3 0 = if d_bd (k_val c a b) = none then 1 else 0 := by
        unfold dv_u
        rw [if_neg (fun q => absurd q.2.1 (by decide)), if_pos ⟨rfl, rfl, rfl⟩]
      have h0 : dv_u (dv_u V2 r 3 0 (if d_bd (k_val c a b) = none then 1 else 0)) r 0 t (k_val c a b) r 0 t = k_val c a b := by
        unfold dv_u
        rw [if_pos ⟨rfl, rfl, rfl⟩]
      cases eR : d_bd (k_val c a b) with
      | none =>
        rw [eR, if_pos rfl] at h3 op hf
        obtain ⟨y, ey⟩ := k_brk (V := dv_u (dv_u V2 r 3 0 1) r 0 t (k_val c a b)) (r := r) (x := x) (to := to) (t := t + 1) (p := q + 1) (by rw [h3]; decide)
        exact ⟨_, y, by rw [ee, dv_lp_s op, ey], hf, by rw [h3]; decide⟩
      | some v =>
        rw [eR, if_neg (fun q => by cases q)] at h3 op hf h0
        refine ⟨_, by rw [ee, dv_lp_s op], hf, h3, ?_⟩
        rw [h0, (d_bd_in eR).1]
end QKO
section QKT
variable {V V' V1 : dV} {r x to t i : Int} {w : Int → Int}
/-- the class's code of a sign of the reference -/
def k_sg (c : Int) : Int := if c = 143 then 3000 else if c = 145 then 3001 else if c = 142 then 3002 else if c = 147 then 3003 else if c = 137 then 3004 else if c = 160 then 3005 else if c = 162 then 3006 else 3007
theorem k_val_cal {c a b : Int} (h : d_mul c ∨ d_add c) : d_cal c a b = d_bd (k_val (k_sg c) a b) := by
  unfold d_mul d_add at h
  rcases h with (rfl | rfl | rfl) | (rfl | rfl)
  · show d_bd (a * b) = _; rfl
  · show (if b = 0 then none else d_bd (a.tdiv b)) = d_bd (if b = 0 then 1000000001 else a.tdiv b)
    by_cases e : b = 0
    · rw [if_pos e, if_pos e]; rfl
    · rw [if_neg e, if_neg e]
  · show (if b = 0 then none else d_bd (a.tmod b)) = d_bd (if b = 0 then 1000000001 else a.tmod b)
    by_cases e : b = 0
    · rw [if_pos e, if_pos e]; rfl
    · rw [if_neg e, if_neg e]
  · show d_bd (a + b) = _; rfl
  · show d_bd (a - b) = _; rfl
theorem k_val_rel {c a b : Int} (h : c = 160 ∨ c = 162 ∨ c = 161) : some (d_rel c a b) = d_bd (k_val (k_sg c) a b) := by
  have q : ∀ z : Int, z = 0 ∨ z = 1 → some z = d_bd z := by
    rintro z (rfl | rfl) <;> rfl
  rcases h with rfl | rfl | rfl
  · show some (if a < b then 1 else 0) = d_bd (if a < b then 1 else 0)
    exact q _ (by split <;> omega)
  · show some (if b < a then 1 else 0) = d_bd (if b < a then 1 else 0)
    exact q _ (by split <;> omega)
  · show some (if a = b then 1 else 0) = d_bd (if a = b then 1 else 0)
    exact q _ (by split <;> omega)
theorem k_sg_in (c : Int) : 3000 ≤ k_sg c ∧ k_sg c ≤ 3007 := by unfold k_sg; repeat (split; first | omega); omega
theorem K_op {X : Int → Int} {p m q h1 h2 c : Int} {A C : dn} (hA : K_seg X p m A h1) (hC : K_seg X m q C h2) (hc : X q = k_sg c) (ho : d_mul c ∨ d_add c) (iA : d_in A) (iC : d_in C) {h : Int} (k1 : h1 ≤ h) (k2 : h2 + 1 ≤ h) : K_seg X p (q + 1) (d_op c A C) h := by
  refine K_two hA hC hc (k_sg_in c).1 (k_sg_in c).2 iA iC (fun w => ⟨fun eA => ?_, fun a eA => ⟨fun eC => ?_, fun b eC => ?_⟩⟩) k1 k2
  · unfold d_op; rw [eA]
  · unfold d_op; rw [eA, eC]
  · unfold d_op; rw [eA, eC]; exact k_val_cal ho
theorem K_cmp {X : Int → Int} {p m q h1 h2 c : Int} {A C : dn} (hA : K_seg X p m A h1) (hC : K_seg X m q C h2) (hc : X q = k_sg c) (ho : c = 160 ∨ c = 162 ∨ c = 161) (iA : d_in A) (iC : d_in C) {h : Int} (k1 : h1 ≤ h) (k2 : h2 + 1 ≤ h) : K_seg X p (q + 1) (d_cmp c A C) h := by
  refine K_two hA hC hc (k_sg_in c).1 (k_sg_in c).2 iA iC (fun w => ⟨fun eA => ?_, fun a eA => ⟨fun eC => ?_, fun b eC => ?_⟩⟩) k1 k2
  · unfold d_cmp; rw [eA]
  · unfold d_cmp; rw [eA, eC]
  · unfold d_cmp; rw [eA, eC]; exact k_val_rel ho
theorem lsub_1 {a : Int} (h : a = 0 ∨ a = 1) : dv_lsub 1 a = 1 - a := by
  rw [dv_lsub_ok (by unfold lb; omega) (by unfold lb; omega)]
theorem K_not {X : Int → Int} {p q h : Int} {A : dn} (hA : K_seg X p q A h) (hc : X q = 3008) (h01 : d_01 A) : K_seg X p (q + 1) (d_not A) h := by
  obtain ⟨p1, g1, fA⟩ := hA
  refine ⟨by omega, by omega, fun V r x to t w cx hw => ?_⟩
  have cA := fA V r x to t w (kx_cx_s (q' := q) cx (by omega) (by omega)) hw
  unfold d_not
  cases eA : A w with
  | none =>
    rw [eA] at cA
    exact cA
  | some a =>
    rw [eA] at cA
    obtain ⟨V1, e1, f1, b1, s1⟩ := cA
    have a01 := h01 w a eA
    have cx1 : kx_cx X q (q + 1) 0 w V1 r x to (t + 1) := kx_cx_f cx f1 b1 (by omega) (by have := cx.2.2.1; omega)
    have op : f_X6_reckon_11b (V1, r, x, to, t + 1, q) = Sum.inl (dv_u (dv_u V1 r 3 0 0) r 0 t (1 - a), r, x, to, t + 1, q + 1) := by
      rw [k_to (c := 3008) (by have := cx1.2.1; omega) (by have := cx1.2.1; omega) b1 (by rw [cx1.1 q (by omega) (by omega), hc]) (by decide) (by have := cx.2.2.1; omega) (Or.inr (by decide))]
      unfold f_X6_reckon_156
      rw [if_neg (by decide), if_pos (by decide), if_pos (by decide)]
      unfold f_X6_reckon_289
      rw [bq, bq, bq, bq, if_neg (by decide), if_neg (by decide), if_neg (by decide), if_neg (by decide), if_neg (by decide), if_neg (by decide), if_neg (by decide), if_neg (by decide), bq, show t + 1 - 0 - 1 = t by omega, s1, lsub_1 a01, k_500, show t + 1 - 0 - 1 = t by omega, show t + 1 - 0 = t + 1 by omega, if_neg (by unfold d_bd; rw [if_neg (by omega)]; exact fun q => by cases q)]
    refine ⟨_, by rw [e1, dv_lp_s op], kx_t f1 (kx_t kx_3 (kx_0 (by omega))), ?_, ?_⟩
    · unfold dv_u; rw [if_neg (fun q => absurd q.2.1 (by decide)), if_pos ⟨rfl, rfl, rfl⟩]
    · unfold dv_u; rw [if_pos ⟨rfl, rfl, rfl⟩]
/-- "and", "or": what is known goes past the second -/
theorem k_215 {T m s q : Int} (h2 : m + 1 < V x 2 0) (hq : V x 0 (m + 1) = q) (hmq : m + 2 < q) : f_X6_reckon_215 V (m + 1) r x to T s = Sum.inl (if s = 0 then (V, r, x, to, T - 1, m + 2) else (V, r, x, to, T, q)) := by
  unfold f_X6_reckon_215
  by_cases e : s = 0
  · rw [if_pos e, if_pos e]
    unfold f_X6_reckon_256 f_X6_reckon_268 f_X6_reckon_538
    rw [if_pos e, bq, bq, show m + 1 + 1 = m + 2 by omega]
  · rw [if_neg e, if_neg e, bq, if_neg (by omega), bq, bq, hq, if_neg (by omega), bq, bq]
    unfold f_X6_reckon_256 f_X6_reckon_268 f_X6_reckon_538
    rw [if_neg e, bq, bq, show q - 1 + 1 = q by omega, show T - 0 = T by omega]
theorem k_jmp {T m q c a : Int} (h1 : m < to) (h2 : m + 1 < V x 2 0) (h3 : V r 3 0 = 0) (hc : V x 0 m = c) (c9 : c = 3009 ∨ c = 3010) (hq : V x 0 (m + 1) = q) (hmq : m + 2 < q) (hT : 1 ≤ T) (ha : V r 0 (T - 1) = a) : ∃ s, f_X6_reckon_11b (V, r, x, to, T, m) = Sum.inl (if s = 0 then (V, r, x, to, T - 1, m + 2) else (V, r, x, to, T, q)) ∧ (s = 1 ∧ (a = 0 ∧ c = 3009 ∨ a ≠ 0 ∧ c = 3010) ∨ s = 0 ∧ (a ≠ 0 ∧ c = 3009 ∨ a = 0 ∧ c = 3010)) := by
  rw [k_to h1 (by omega) h3 hc (by omega) hT (Or.inr (by omega))]
  have e0 : f_X6_reckon_156 V c r x to T m = f_X6_reckon_172 V c r x to T m := by
    unfold f_X6_reckon_156
    rcases c9 with e | e
    · rw [if_pos e]
    · rw [if_neg (by omega), if_neg (fun q => q e)]
  rw [e0]
  unfold f_X6_reckon_172
  rw [bq, bq, bq, bq, ha]
  unfold f_X6_reckon_194 f_X6_reckon_207
  by_cases ea : a = 0
  · rw [if_pos (lcmp_eq.mpr ea)]
    rcases c9 with e | e
    · rw [if_pos (by omega), if_neg (by decide)]
      exact ⟨1, k_215 h2 hq hmq, by omega⟩
    · rw [if_neg (by omega), if_pos (by decide)]
      exact ⟨0, k_215 h2 hq hmq, by omega⟩
  · rw [if_neg (fun k => ea (lcmp_eq.mp k))]
    rcases c9 with e | e
    · rw [if_pos (by omega), if_pos (by decide)]
      exact ⟨0, k_215 h2 hq hmq, by omega⟩
    · rw [if_neg (by omega), if_neg (by decide)]
      exact ⟨1, k_215 h2 hq hmq, by omega⟩
theorem K_jmp {X : Int → Int} {p m q h1 h2 c : Int} {A C R : dn} (hA : K_seg X p m A h1) (hC : K_seg X (m + 2) q C h2) (hc : X m = c) (hj : X (m + 1) = q) (c9 : c = 3009 ∨ c = 3010)
    (hR : ∀ (w : Int → Int), (A w = none → R w = none) ∧ ∀ a, A w = some a → ((a = 0 ∧ c = 3009 ∨ a ≠ 0 ∧ c = 3010) → R w = some a) ∧ ((a ≠ 0 ∧ c = 3009 ∨ a = 0 ∧ c = 3010) → R w = C w)) {h : Int} (k1 : h1 ≤ h) (k2 : h2 ≤ h) : K_seg X p q R h := by
  obtain ⟨p1, g1, fA⟩ := hA
  obtain ⟨p2, g2, fC⟩ := hC
  refine ⟨by omega, by omega, fun V r x to t w cx hw => ?_⟩
  have cA := fA V r x to t w (kx_cx_s (q' := m) cx (by omega) k1) hw
  cases eA : A w with
  | none =>
    rw [eA] at cA
    rw [(hR w).1 eA]
    exact cA
  | some a =>
    rw [eA] at cA
    obtain ⟨V1, e1, f1, b1, s1⟩ := cA
    have RC := (hR w).2 a eA
    have cx1 : kx_cx X m q 0 w V1 r x to (t + 1) := kx_cx_f cx f1 b1 (by omega) (by have := cx.2.2.1; omega)
    have hb := cx1.2.1
    obtain ⟨s, es, hs⟩ := k_jmp (V := V1) (r := r) (x := x) (to := to) (T := t + 1) (m := m) (q := q) (c := c) (a := a) (by omega) (by omega) b1 (by rw [cx1.1 m (by omega) (by omega), hc]) c9 (by rw [cx1.1 (m + 1) (by omega) (by omega), hj]) p2 (by have := cx.2.2.1; omega) (by rw [show t + 1 - 1 = t by omega, s1])
    rw [show t + 1 - 1 = t by omega] at es
    rcases hs with ⟨rfl, hk⟩ | ⟨rfl, hk⟩
    · rw [if_neg (by decide)] at es
      rw [RC.1 hk]
      exact ⟨V1, by rw [e1, dv_lp_s es], f1, b1, s1⟩
    · rw [if_pos rfl] at es
      rw [RC.2 hk]
      have cx2 : kx_cx X (m + 2) q h2 w V1 r x to t := kx_cx_f cx f1 b1 (by omega) (by have := cx.2.2.1; omega)
      have cC := fC V1 r x to t w cx2 hw
      cases eC : C w with
      | none =>
        rw [eC] at cC
        obtain ⟨V2, y, e2, f2, b2⟩ := cC
        exact ⟨V2, y, by rw [e1, dv_lp_s es, e2], kx_t f1 f2, b2⟩
      | some b =>
        rw [eC] at cC
        obtain ⟨V2, e2, f2, b2, s2⟩ := cC
        exact ⟨V2, by rw [e1, dv_lp_s es, e2], kx_t f1 f2, b2, s2⟩
theorem K_and {X : Int → Int} {p m q h1 h2 : Int} {A C : dn} (hA : K_seg X p m A h1) (hC : K_seg X (m + 2) q C h2) (hc : X m = 3009) (hj : X (m + 1) = q) {h : Int} (k1 : h1 ≤ h) (k2 : h2 ≤ h) : K_seg X p q (d_and A C) h := by
  refine K_jmp hA hC hc hj (Or.inl rfl) (fun w => ⟨fun eA => ?_, fun a eA => ⟨fun k => ?_, fun k => ?_⟩⟩) k1 k2
  · unfold d_and; rw [eA]
  · unfold d_and; rw [eA]
    show (if a = 0 then some 0 else C w) = some a
    rw [if_pos (by omega), show a = 0 by omega]
  · unfold d_and; rw [eA]
    show (if a = 0 then some 0 else C w) = C w
    rw [if_neg (by omega)]
theorem K_or {X : Int → Int} {p m q h1 h2 : Int} {A C : dn} (hA : K_seg X p m A h1) (hC : K_seg X (m + 2) q C h2) (hc : X m = 3010) (hj : X (m + 1) = q) {h : Int} (k1 : h1 ≤ h) (k2 : h2 ≤ h) : K_seg X p q (d_or A C) h := by
  refine K_jmp hA hC hc hj (Or.inr rfl) (fun w => ⟨fun eA => ?_, fun a eA => ⟨fun k => ?_, fun k => ?_⟩⟩) k1 k2
  · unfold d_or; rw [eA]
  · unfold d_or; rw [eA]
    show (if a = 0 then C w else some a) = some a
    rw [if_neg (by omega)]
  · unfold d_or; rw [eA]
    show (if a = 0 then C w else some a) = C w
    rw [if_pos (by omega)]
/-- the class reckons: what A says, and nothing but its stack and "broken" changes -/
theorem K_run {X : Int → Int} {p q h : Int} {A : dn} (hA : K_seg X p q A h) (h62 : h ≤ 62) (hX : ∀ i, p ≤ i → i < q → V x 0 i = X i) (hq : q ≤ V x 2 0) (hw1 : ∀ k, 0 ≤ k → k < 23 → V r 1 k = w k) (hxr : x ≠ r) (hw : ∀ k, -2147483648 ≤ w k ∧ w k ≤ 2147483647) : ∃ (V' : dV) (y : Int), f_X6_reckon V r x p q = (V', y) ∧ kx_fr r 0 V V' ∧ match A w with
  | some v => V' r 3 0 = 0 ∧ y = v
  | none => V' r 3 0 ≠ 0 := by
  obtain ⟨p1, g1, fA⟩ := hA
  have hf : kx_fr r 0 V (dv_u V r 3 0 0) := kx_3
  have h3 : dv_u V r 3 0 0 r 3 0 = 0 := by unfold dv_u; rw [if_pos ⟨rfl, rfl, rfl⟩]
  have cx : kx_cx X p q h w (dv_u V r 3 0 0) r x q 0 := by
    refine ⟨fun i i0 i1 => ?_, ⟨?_, by omega⟩, ⟨by omega, by omega⟩, h3, fun k k0 k1 => ?_, hxr⟩
    · rw [hf.1 x 0 i (fun q => hxr q.1)]; exact hX i i0 i1
    · rw [hf.1 x 2 0 (fun q => hxr q.1)]; exact hq
    · rw [hf.1 r 1 k (fun q => q.2.elim (by decide) (by decide))]; exact hw1 k k0 k1
  have cA := fA _ r x q 0 w cx hw
  unfold f_X6_reckon
  rw [bq]
  cases eA : A w with
  | none =>
    rw [eA] at cA
    obtain ⟨V', y, e, f, b⟩ := cA
    exact ⟨V', y, e, kx_t hf f, b⟩
  | some v =>
    rw [eA] at cA
    obtain ⟨V', e, f, b, s⟩ := cA
    refine ⟨V', v, ?_, kx_t hf f, b, rfl⟩
    rw [e]
    refine dv_lp_e ?_
    rw [f_X6_reckon_11e]
    unfold f_X6_reckon_11c
    rw [if_pos (by omega), bq, s]
end QKT
section QRD
variable {V V' V1 W W' W1 : dV} {r x a i t c v o p : Int} {tk pl cd vl : Int → Int} {j k : Nat} {b z y : Int}
theorem u_e : dv_u V a j i y a j i = y := by unfold dv_u; rw [if_pos ⟨rfl, rfl, rfl⟩]
theorem u_j (h : k ≠ j) : dv_u V a j i y b k z = V b k z := by unfold dv_u; rw [if_neg (fun q => h q.2.1)]
theorem u_b (h : b ≠ a) : dv_u V a j i y b k z = V b k z := by unfold dv_u; rw [if_neg (fun q => h q.1)]
theorem u_i (h : z ≠ i) : dv_u V a j i y b k z = V b k z := by unfold dv_u; rw [if_neg (fun q => h q.2.2)]
/-- a word of the class's reader and its code in the reference -/
def rd_wp (t c : Int) : Prop := ((301 ≤ t ∧ t ≤ 303) ∧ c = t - 300) ∨ (t = 304 ∧ c = 21) ∨ ((305 ≤ t ∧ t ≤ 307) ∧ c = t - 281) ∨ (t = 308 ∧ c = 4) ∨ (t = 309 ∧ c = 27) ∨ ((310 ≤ t ∧ t ≤ 311) ∧ c = t - 288) ∨ ((312 ≤ t ∧ t ≤ 317) ∧ c = t - 307) ∨ (t = 318 ∧ c = 14) ∨ ((319 ≤ t ∧ t ≤ 320) ∧ c = t - 308) ∨ (t = 321 ∧ c = 15) ∨ (t = 322 ∧ c = 13) ∨ ((323 ≤ t ∧ t ≤ 327) ∧ c = t - 307)
/-- a token of the class's reader; code and value in the reference -/
def rd_tk (t c v : Int) : Prop := (t = -1 ∧ c = 0) ∨ (t = 300 ∧ c = 0) ∨ ((0 ≤ t ∧ t ≤ 255) ∧ c = 100 + t) ∨ rd_wp t c ∨ ((400 ≤ t ∧ t ≤ 1401) ∧ c = 50 ∧ ((v = t - 400 ∧ t ≤ 1400) ∨ (t = 1401 ∧ 1000 < v)))
theorem rd_sg (h : rd_tk t c v) (h0 : 0 ≤ b) (h1 : b ≤ 255) : t = b ↔ c = 100 + b := by
  unfold rd_tk rd_wp at h; omega
theorem rd_wd {b e : Int} (h : rd_tk t c v) (h0 : rd_wp b e) : t = b ↔ c = e := by
  unfold rd_tk rd_wp at *; omega
/-- how many bytes it has at least -/
def rd_w (t : Int) : Int := if t = 312 then 2 else if t = 313 then 3 else 1
/-- N tokens and the end -/
def rd_ts (tk pl cd vl : Int → Int) (N : Int) : Prop := (0 ≤ N ∧ N ≤ 400) ∧ tk N = -1 ∧ ∀ i, 0 ≤ i → i ≤ N → rd_tk (tk i) (cd i) (vl i) ∧ (0 ≤ pl i ∧ pl i ≤ 400) ∧ (i < N → tk i ≠ -1 ∧ pl i + rd_w (tk i) ≤ pl (i + 1))
/-- the class's reader r into the text x -/
def rd_cx (o : Int) (tk pl : Int → Int) (V : dV) (r x : Int) : Prop := (∀ z, V r 0 z = tk z) ∧ (∀ z, V r 1 z = pl z) ∧ V r 3 0 = x ∧ V r 4 0 = o ∧ x ≠ r ∧ (o = 0 ∨ o = 1)
def rd_fr (r x : Int) (V V' : dV) : Prop := ∀ b j z, ¬ (b = r ∧ (j = 5 ∨ j = 6 ∨ j = 7 ∨ j = 8)) → ¬ (b = x ∧ (j = 0 ∨ j = 2)) → V' b j z = V b j z
theorem rd_fr_r : rd_fr r x V V := fun _ _ _ _ _ => rfl
theorem rd_fr_t (h : rd_fr r x V V') (h1 : rd_fr r x V' V1) : rd_fr r x V V1 := fun b j z k k1 => (h1 b j z k k1).trans (h b j z k k1)
theorem rd_fr_u (h : j = 5 ∨ j = 6 ∨ j = 7 ∨ j = 8) : rd_fr r x V (dv_u V r j i y) := fun b k z q _ => by
  unfold dv_u; rw [if_neg (fun e => q ⟨e.1, by rw [e.2.1]; exact h⟩)]
theorem rd_fr_x (h : j = 0 ∨ j = 2) : rd_fr r x V (dv_u V x j i y) := fun b k z _ q => by
  unfold dv_u; rw [if_neg (fun e => q ⟨e.1, by rw [e.2.1]; exact h⟩)]
theorem rd_cx_f (c : rd_cx o tk pl V r x) (f : rd_fr r x V V') : rd_cx o tk pl V' r x := by
  obtain ⟨h1, h2, h3, h4, h5, h6⟩ := c
  have k : ∀ (j : Nat) (z : Int), j < 5 → V' r j z = V r j z := fun j z hj => f r j z (fun q => by omega) (fun q => h5 q.1.symm)
  exact ⟨fun z => by rw [k 0 z (by decide)]; exact h1 z, fun z => by rw [k 1 z (by decide)]; exact h2 z, by rw [k 3 0 (by decide)]; exact h3, by rw [k 4 0 (by decide)]; exact h4, h5, h6⟩
/-- the reference's reader -/
def re_cx (o : Int) (cd vl pl : Int → Int) (W : dV) (a : Int) : Prop := (∀ z, W a 15 z = cd z) ∧ (∀ z, W a 16 z = vl z) ∧ (∀ z, W a 17 z = pl z) ∧ W a 10 0 = o ∧ (o = 0 → W a 8 0 = 8 ∧ W a 9 0 = 15) ∧ (o = 1 → W a 8 0 = 14 ∧ W a 9 0 = 20)
def re_fr (a : Int) (W W' : dV) : Prop := ∀ b j z, ¬ (b = a ∧ (j = 19 ∨ j = 20 ∨ j = 21)) → W' b j z = W b j z
theorem re_fr_r : re_fr a W W := fun _ _ _ _ => rfl
theorem re_fr_t (h : re_fr a W W') (h1 : re_fr a W' W1) : re_fr a W W1 := fun b j z k => (h1 b j z k).trans (h b j z k)
theorem re_fr_u (h : j = 19 ∨ j = 20 ∨ j = 21) : re_fr a W (dv_u W a j i y) := fun b k z q => by
  unfold dv_u; rw [if_neg (fun e => q ⟨e.1, by rw [e.2.1]; exact h⟩)]
theorem re_cx_f (c : re_cx o cd vl pl W a) (f : re_fr a W W') : re_cx o cd vl pl W' a := by
  obtain ⟨h1, h2, h3, h4, h5, h6⟩ := c
  have k : ∀ (j : Nat) (z : Int), j < 19 → W' a j z = W a j z := fun j z hj => f a j z (fun q => by omega)
  exact ⟨fun z => by rw [k 15 z (by decide)]; exact h1 z, fun z => by rw [k 16 z (by decide)]; exact h2 z, fun z => by rw [k 17 z (by decide)]; exact h3 z, by rw [k 10 0 (by decide)]; exact h4, fun e => by rw [k 8 0 (by decide), k 9 0 (by decide)]; exact h5 e, fun e => by rw [k 8 0 (by decide), k 9 0 (by decide)]; exact h6 e⟩
-- the class's steps
theorem c_seen (c : rd_cx o tk pl V r x) (h : V r 8 0 = -1) : f_X5_seenToken V r = (tk (V r 5 0), ()) := by
  unfold f_X5_seenToken
  rw [bq, if_neg (fun q => q h), bq, bq, c.1]
theorem c_seen_f (h : V r 8 0 ≠ -1) : f_X5_seenToken V r = (-1, ()) := by
  unfold f_X5_seenToken
  rw [bq, if_pos h]
theorem c_take1 (c : rd_cx o tk pl V r x) (h : V r 8 0 = -1) (e : tk (V r 5 0) = t) : f_X5_take V r t = (dv_u V r 5 0 (V r 5 0 + 1), 1) := by
  unfold f_X5_take
  rw [bq, if_neg (fun q => q h), bq, bq, c.1, if_pos e, bq, bq, bq]
theorem c_take0 (c : rd_cx o tk pl V r x) (e : V r 8 0 = -1 → tk (V r 5 0) ≠ t) : f_X5_take V r t = (V, 0) := by
  unfold f_X5_take
  rw [bq]
  by_cases h : V r 8 0 = -1
  · rw [if_neg (fun q => q h), bq, bq, c.1, if_neg (e h)]
  · rw [if_pos h]
theorem c_fail (c : rd_cx o tk pl V r x) (h : V r 8 0 = -1) : f_X5_fail V r = (dv_u V r 8 0 (pl (V r 5 0)), 0) := by
  unfold f_X5_fail
  rw [bq, if_neg (fun q => q h), bq, bq, c.2.1, bq]
theorem c_fail_f (h : V r 8 0 ≠ -1) : f_X5_fail V r = (V, 0) := by
  unfold f_X5_fail
  rw [bq, if_pos h]
theorem c_num1 (c : rd_cx o tk pl V r x) (h : V r 8 0 = -1) {l m n : Int} (e : tk (V r 5 0) = 400 + n) (n0 : l ≤ n) (n1 : n ≤ m) (n2 : 0 ≤ n ∧ n ≤ 1001) : f_X5_takeNumber V r l m = (dv_u V r 5 0 (V r 5 0 + 1), n) := by
  unfold f_X5_takeNumber
  rw [bq, bq, c.1, bq, e, dv_sub_ok (by omega) (by omega) (by omega) (by omega) (by omega) (by omega), show 400 + n - 400 = n by omega, bq, if_neg (fun q => q h), if_neg (by omega), if_pos n1, bq, bq, bq]
theorem c_num0 (c : rd_cx o tk pl V r x) {l m n : Int} (e : V r 8 0 = -1 → tk (V r 5 0) = 400 + n ∧ (n < l ∨ m < n)) (bd : V r 8 0 = -1 → -1000 ≤ n ∧ n ≤ 1001) : f_X5_takeNumber V r l m = (V, -1) := by
  unfold f_X5_takeNumber
  rw [bq, bq, c.1, bq, bq]
  by_cases h : V r 8 0 = -1
  · have e1 := (e h).1
    have e2 := (e h).2
    have e3 := bd h
    rw [if_neg (fun q => q h), e1, dv_sub_ok (by omega) (by omega) (by omega) (by omega) (by omega) (by omega), show 400 + n - 400 = n by omega]
    by_cases k : n < l
    · rw [if_pos k]
    · rw [if_neg k, if_neg (by omega)]
  · rw [if_pos h]
theorem c_add_n : f_X10_add V x (-1) = (V, 0) := by
  unfold f_X10_add
  rw [if_pos rfl]
theorem c_add (hc : c ≠ -1) (h : V x 2 0 < 400) : f_X10_add V x c = (dv_u (dv_u V x 0 (V x 2 0) c) x 2 0 (V x 2 0 + 1), 0) := by
  unfold f_X10_add
  rw [if_neg hc, bq, bq, if_neg (by omega), bq, bq, bq, bq, bq, u_j (by decide)]
theorem c_add_f : ∃ V', f_X10_add V x c = (V', 0) ∧ rd_fr r x V V' ∧ ∀ j z, x ≠ r → V' r j z = V r j z := by
  by_cases hc : c = -1
  · exact ⟨V, by rw [hc]; exact c_add_n, rd_fr_r, fun _ _ _ => rfl⟩
  · by_cases h : V x 2 0 < 400
    · exact ⟨_, c_add hc h, rd_fr_t (rd_fr_x (Or.inl rfl)) (rd_fr_x (Or.inr rfl)), fun j z k => by rw [u_b (Ne.symm k), u_b (Ne.symm k)]⟩
    · refine ⟨V, ?_, rd_fr_r, fun _ _ _ => rfl⟩
      unfold f_X10_add
      rw [if_neg hc, bq, bq, if_pos (by omega)]
-- the reference's steps
theorem m_fine1 (h : W a 21 0 = -1) : f_X12_fine W a = (1, ()) := by
  unfold f_X12_fine
  rw [bq, if_neg (fun q => q h)]
theorem m_fine0 (h : W a 21 0 ≠ -1) : f_X12_fine W a = (0, ()) := by
  unfold f_X12_fine
  rw [bq, if_pos h]
theorem m_take1 (k : re_cx o cd vl pl W a) (h : W a 21 0 = -1) (e : cd (W a 19 0) = c) : f_X12_takes0 W a c = (dv_u W a 19 0 (W a 19 0 + 1), 1) := by
  unfold f_X12_takes0
  rw [dv_bn2 (m_fine1 h), if_neg (by decide), bq, bq, k.1, if_neg (fun q => q e), bq, bq, bq]
theorem m_take0 (k : re_cx o cd vl pl W a) (e : W a 21 0 = -1 → cd (W a 19 0) ≠ c) : f_X12_takes0 W a c = (W, 0) := by
  unfold f_X12_takes0
  by_cases h : W a 21 0 = -1
  · rw [dv_bn2 (m_fine1 h), if_neg (by decide), bq, bq, k.1, if_pos (e h)]
  · rw [dv_bn2 (m_fine0 h), if_pos rfl]
theorem m_faults (k : re_cx o cd vl pl W a) (h : W a 21 0 = -1) : f_X12_faults W a = (dv_u W a 21 0 (pl (W a 19 0)), 0) := by
  unfold f_X12_faults
  rw [dv_bn2 (m_fine1 h), if_neg (by decide), bq, bq, k.2.2.1, bq]
theorem m_faults_f (h : W a 21 0 ≠ -1) : f_X12_faults W a = (W, 0) := by
  unfold f_X12_faults
  rw [dv_bn2 (m_fine0 h), if_pos rfl]
theorem m_must1 (k : re_cx o cd vl pl W a) (h : W a 21 0 = -1) (e : cd (W a 19 0) = c) : f_X12_must W a c = (dv_u W a 19 0 (W a 19 0 + 1), 0) := by
  unfold f_X12_must
  rw [dv_bn2 (m_take1 k h e), if_pos (by decide)]
theorem m_must0 (k : re_cx o cd vl pl W a) (h : W a 21 0 = -1) (e : cd (W a 19 0) ≠ c) : f_X12_must W a c = (dv_u W a 21 0 (pl (W a 19 0)), 0) := by
  unfold f_X12_must
  rw [dv_bn2 (m_take0 k (fun _ => e)), if_neg (fun q => q rfl), dv_bn2 (m_faults k h)]
theorem m_must_f (k : re_cx o cd vl pl W a) (h : W a 21 0 ≠ -1) : f_X12_must W a c = (W, 0) := by
  unfold f_X12_must
  rw [dv_bn2 (m_take0 k (fun q => absurd q h)), if_neg (fun q => q rfl), dv_bn2 (m_faults_f h)]
theorem m_leaf1 (h : W a 21 0 = -1) (h0 : 0 ≤ W a 20 0) (h1 : W a 20 0 < 50) : f_X12_leaf W a = (dv_u (dv_u W a 20 0 (W a 20 0 + 1)) a 19 0 (W a 19 0 + 1), 0) := by
  unfold f_X12_leaf
  rw [bq, if_pos (by omega), bq, bq, dv_add_ok (by omega) (by omega) (by omega) (by omega) (by decide) (by decide), bq, dv_bn2 (m_fine1 (by rw [u_j (by decide)]; exact h)), if_neg (by decide), bq, bq, bq, u_j (by decide)]
theorem m_leaf0 (k : re_cx o cd vl pl W a) (h : W a 21 0 = -1) (h1 : W a 20 0 = 50) (hp : pl (W a 19 0) ≠ -1) : f_X12_leaf W a = (dv_u (dv_u W a 21 0 (pl (W a 19 0))) a 20 0 51, 0) := by
  unfold f_X12_leaf
  rw [bq, if_neg (fun q => q h1), dv_bn2 (m_faults k h), bq, bq, u_j (by decide), h1, bq, dv_bn2 (m_fine0 (by rw [u_j (by decide), u_e]; exact hp)), if_pos rfl]
  rfl
theorem m_num1 (k : re_cx o cd vl pl W a) (h : W a 21 0 = -1) {l m : Int} (e : cd (W a 19 0) = 50) (n0 : l ≤ vl (W a 19 0)) (n1 : vl (W a 19 0) ≤ m) : f_X12_mustNumber W a l m = (dv_u W a 19 0 (W a 19 0 + 1), 0) := by
  unfold f_X12_mustNumber
  rw [dv_bn2 (m_fine1 h), if_neg (by decide), bq, bq, k.1, if_neg (fun q => q e), bq, bq, k.2.1, dv_bn2 q_lies, if_pos (by rw [if_pos ⟨n0, n1⟩]; decide), dv_bn2 (m_fine1 h), if_neg (by decide), bq, bq, bq]
theorem m_num0 (k : re_cx o cd vl pl W a) (h : W a 21 0 = -1) {l m : Int} (e : cd (W a 19 0) ≠ 50 ∨ vl (W a 19 0) < l ∨ m < vl (W a 19 0)) (hp : pl (W a 19 0) ≠ -1) : f_X12_mustNumber W a l m = (dv_u W a 21 0 (pl (W a 19 0)), 0) := by
  have f0 : f_X12_fine (dv_u W a 21 0 (pl (W a 19 0))) a = (0, ()) := m_fine0 (by rw [u_e]; exact hp)
  unfold f_X12_mustNumber
  rw [dv_bn2 (m_fine1 h), if_neg (by decide), bq, bq, k.1]
  by_cases e5 : cd (W a 19 0) = 50
  · rw [if_neg (fun q => q e5), bq, bq, k.2.1, dv_bn2 q_lies, if_neg (by rw [if_neg (by omega)]; decide), dv_bn2 (m_faults k h), dv_bn2 f0, if_pos rfl]
  · rw [if_pos e5, dv_bn2 (m_faults k h), dv_bn2 f0, if_pos rfl]
theorem m_num_f {l m : Int} (h : W a 21 0 ≠ -1) : f_X12_mustNumber W a l m = (W, 0) := by
  unfold f_X12_mustNumber
  rw [dv_bn2 (m_fine0 h), if_pos rfl, dv_bn2 (m_fine0 h), if_pos rfl]
end QRD
section QRP
variable {V V' V1 V2 W W' W1 : dV} {r x a i t c v o p : Int} {tk pl cd vl : Int → Int} {D : Nat} {rc : dV → Int → dR}
theorem K_seg_m {X : Int → Int} {p q h h' : Int} {A : dn} (hA : K_seg X p q A h) (k : h ≤ h') : K_seg X p q A h' := by
  obtain ⟨h1, h2, f⟩ := hA
  exact ⟨h1, by omega, fun V r x to t w cx hw => f V r x to t w (kx_cx_s cx (by omega) k) hw⟩
theorem c_law1 (h0 : 315 ≤ t) (h1 : t ≤ 322) : f_X5_lawCode V t = (2000 + (t - 315), ()) := by
  unfold f_X5_lawCode
  rw [if_neg (by omega), if_neg (by omega), bq, bq]
  exact Prod.ext (by show 2000 + t - 315 = _; omega) rfl
theorem c_law0 (h : t < 315 ∨ 322 < t) : f_X5_lawCode V t = (-1, ()) := by
  unfold f_X5_lawCode
  by_cases e : t < 315
  · rw [if_pos e]
  · rw [if_neg e, if_pos (by omega)]
theorem c_ord1 (h0 : 323 ≤ t) (h1 : t ≤ 326) : f_X5_orderCode V t = (2000 + (t - 322), ()) := by
  unfold f_X5_orderCode
  rw [if_neg (by omega), if_neg (by omega), bq, bq]
  exact Prod.ext (by show 2001 + t - 323 = _; omega) rfl
theorem c_ord2 (h : t = 321 ∨ t = 318 ∨ t = 327) : f_X5_orderCode V t = (if t = 321 then 2000 else if t = 318 then 2005 else 2014, ()) := by
  unfold f_X5_orderCode f_X5_orderCode_24
  rcases h with rfl | rfl | rfl <;> rfl
theorem c_ord0 (h : ¬ (323 ≤ t ∧ t ≤ 326)) (h1 : t ≠ 321) (h2 : t ≠ 318) (h3 : t ≠ 327) : f_X5_orderCode V t = (-1, ()) := by
  unfold f_X5_orderCode f_X5_orderCode_24
  have e : (if t ≠ 321 then (if t ≠ 318 then (if t ≠ 327 then ((-1 : Int), ()) else (2014, ())) else (2005, ())) else (2000, ())) = (-1, ()) := by
    rw [if_pos h1, if_pos h2, if_pos h3]
  rw [e]
  by_cases k : t < 323
  · rw [if_pos k]
  · rw [if_neg k, if_pos (by omega)]

theorem c_175n : f_X5_readPart_175 D rc V r (-1) = ((f_X5_fail V r).1, 0) := by
  unfold f_X5_readPart_175 f_X5_readPart_184
  rw [if_neg (fun q => q rfl), bq2, bq, dv_bn2 c_add_n]
theorem c_175p (h : c ≠ -1) : f_X5_readPart_175 D rc V r c = ((f_X10_add V (V r 3 0) c).1, 0) := by
  unfold f_X5_readPart_175 f_X5_readPart_184
  rw [if_pos h, bq, bq2]

theorem c_175nx2 : f_X5_readPart_175x2 D rc V r (-1) = ((f_X5_fail V r).1, 0) := by
  unfold f_X5_readPart_175x2 f_X5_readPart_184x2
  rw [if_neg (fun q => q rfl), bq2, bq, dv_bn2 c_add_n]
theorem c_175px2 (h : c ≠ -1) : f_X5_readPart_175x2 D rc V r c = ((f_X10_add V (V r 3 0) c).1, 0) := by
  unfold f_X5_readPart_175x2 f_X5_readPart_184x2
  rw [if_pos h, bq, bq2]

theorem c_175nx3 : f_X5_readPart_175x3 D rc V r (-1) = ((f_X5_fail V r).1, 0) := by
  unfold f_X5_readPart_175x3 f_X5_readPart_184x3
  rw [if_neg (fun q => q rfl), bq2, bq, dv_bn2 c_add_n]
theorem c_175px3 (h : c ≠ -1) : f_X5_readPart_175x3 D rc V r c = ((f_X10_add V (V r 3 0) c).1, 0) := by
  unfold f_X5_readPart_175x3 f_X5_readPart_184x3
  rw [if_pos h, bq, bq2]

theorem c_175nx4 : f_X5_readPart_175x4 D rc V r (-1) = ((f_X5_fail V r).1, 0) := by
  unfold f_X5_readPart_175x4 f_X5_readPart_184x4
  rw [if_neg (fun q => q rfl), bq2, bq, dv_bn2 c_add_n]
theorem c_175px4 (h : c ≠ -1) : f_X5_readPart_175x4 D rc V r c = ((f_X10_add V (V r 3 0) c).1, 0) := by
  unfold f_X5_readPart_175x4 f_X5_readPart_184x4
  rw [if_pos h, bq, bq2]

theorem c_175nx5 : f_X5_readPart_175x5 D rc V r (-1) = ((f_X5_fail V r).1, 0) := by
  unfold f_X5_readPart_175x5 f_X5_readPart_184x5
  rw [if_neg (fun q => q rfl), bq2, bq, dv_bn2 c_add_n]
theorem c_175px5 (h : c ≠ -1) : f_X5_readPart_175x5 D rc V r c = ((f_X10_add V (V r 3 0) c).1, 0) := by
  unfold f_X5_readPart_175x5 f_X5_readPart_184x5
  rw [if_pos h, bq, bq2]

theorem c_175nx6 : f_X5_readPart_175x6 D rc V r (-1) = ((f_X5_fail V r).1, 0) := by
  unfold f_X5_readPart_175x6 f_X5_readPart_184x6
  rw [if_neg (fun q => q rfl), bq2, bq, dv_bn2 c_add_n]
theorem c_175px6 (h : c ≠ -1) : f_X5_readPart_175x6 D rc V r c = ((f_X10_add V (V r 3 0) c).1, 0) := by
  unfold f_X5_readPart_175x6 f_X5_readPart_184x6
  rw [if_pos h, bq, bq2]

theorem c_154 {u : Int} : f_X5_readPart_154 D rc V u r = if (f_X5_takeNumber V r 0 8).2 ≠ -1 then f_X5_readPart_175x3 D rc (f_X5_takeNumber V r 0 8).1 r (u + (f_X5_takeNumber V r 0 8).2) else f_X5_readPart_175x3 D rc (f_X5_takeNumber V r 0 8).1 r (-1) := by
  unfold f_X5_readPart_154
  rw [bq2, bq]

theorem c_154x2 {u : Int} : f_X5_readPart_154x2 D rc V u r = if (f_X5_takeNumber V r 0 8).2 ≠ -1 then f_X5_readPart_175x4 D rc (f_X5_takeNumber V r 0 8).1 r (u + (f_X5_takeNumber V r 0 8).2) else f_X5_readPart_175x4 D rc (f_X5_takeNumber V r 0 8).1 r (-1) := by
  unfold f_X5_readPart_154x2
  rw [bq2, bq]

theorem c_part50 (hs : f_X5_seenToken V r = (t, ())) (h91 : t ≠ 91) (h50 : ¬ V r 6 0 < 50) : f_X5_readPart D V r = ((f_X5_fail V r).1, 0) := by
  rw [f_X5_readPart_d]
  unfold f_X5_readPart_B
  rw [dv_bn2 hs, if_pos h91, bq, if_neg h50, bq2]
/-- no such word -/
theorem c_partN (hs : f_X5_seenToken V r = (t, ())) (h91 : t ≠ 91) (h50 : V r 6 0 < 50) (h4 : t < 400) (ho : V r 4 0 = 0 ∧ (t < 315 ∨ 322 < t) ∨ V r 4 0 ≠ 0 ∧ ¬ (323 ≤ t ∧ t ≤ 326) ∧ t ≠ 321 ∧ t ≠ 318 ∧ t ≠ 327) : f_X5_readPart D V r = ((f_X5_fail (dv_u (dv_u V r 6 0 (V r 6 0 + 1)) r 5 0 (V r 5 0)) r).1, 0) := by
  rw [f_X5_readPart_d]
  unfold f_X5_readPart_B
  rw [dv_bn2 hs, if_pos h91, bq, if_pos h50, bq, bq, bq, if_pos h4, bq, u_j (by decide)]
  rcases ho with ⟨o0, k⟩ | ⟨o1, k0, k1, k2, k3⟩
  · rw [if_pos o0, dv_bn2 (c_law0 k), bq, if_pos rfl, bq, bq, bq, u_j (by decide), u_j (by decide), if_pos o0, c_175n, u_j (by decide), Int.add_zero]
  · rw [if_neg o1, dv_bn2 (c_ord0 k0 k1 k2 k3), bq, if_pos rfl, bq, bq, bq, u_j (by decide), u_j (by decide), if_neg o1, if_neg k2, if_pos k3, c_175nx3, u_j (by decide), Int.add_zero]
/-- a word of a law -/
theorem c_partL (hs : f_X5_seenToken V r = (t, ())) (h50 : V r 6 0 < 50) (ho : V r 4 0 = 0) (h0 : 315 ≤ t) (h1 : t ≤ 322) : f_X5_readPart D V r = ((f_X10_add (dv_u (dv_u V r 6 0 (V r 6 0 + 1)) r 5 0 (V r 5 0 + 1)) (V r 3 0) (2000 + (t - 315))).1, 0) := by
  rw [f_X5_readPart_d]
  unfold f_X5_readPart_B
  rw [dv_bn2 hs, if_pos (by omega), bq, if_pos h50, bq, bq, bq, if_pos (by omega), bq, u_j (by decide), if_pos ho, dv_bn2 (c_law1 h0 h1), bq, if_neg (by omega), if_neg (by omega), bq, bq, bq, u_j (by decide), u_j (by decide), if_pos ho, c_175px2 (by omega), u_j (by decide), u_j (by decide), u_j (by decide)]
/-- a word of orders -/
theorem c_partO (hs : f_X5_seenToken V r = (t, ())) (h50 : V r 6 0 < 50) (ho : V r 4 0 ≠ 0) (h : (323 ≤ t ∧ t ≤ 326) ∨ t = 321) : f_X5_readPart D V r = ((f_X10_add (dv_u (dv_u V r 6 0 (V r 6 0 + 1)) r 5 0 (V r 5 0 + 1)) (V r 3 0) (2000 + (if t = 321 then 0 else t - 322))).1, 0) := by
  have e : f_X5_orderCode (dv_u V r 6 0 (V r 6 0 + 1)) t = (2000 + (if t = 321 then 0 else t - 322), ()) := by
    rcases h with h | h
    · rw [c_ord1 h.1 h.2, if_neg (by omega)]
    · rw [c_ord2 (Or.inl h), if_pos h, if_pos h]; rfl
  have g : 2000 + (if t = 321 then 0 else t - 322) ≠ -1 := by split <;> omega
  rw [f_X5_readPart_d]
  unfold f_X5_readPart_B
  rw [dv_bn2 hs, if_pos (by omega), bq, if_pos h50, bq, bq, bq, if_pos (by omega), bq, u_j (by decide), if_neg ho, dv_bn2 e, bq, if_neg g, if_neg (by omega), bq, bq, bq, u_j (by decide), u_j (by decide), if_neg ho, if_neg (by omega), if_pos (by omega), c_175px4 g, u_j (by decide), u_j (by decide), u_j (by decide)]
/-- pile, laid -/
theorem c_partP (hs : f_X5_seenToken V r = (t, ())) (h50 : V r 6 0 < 50) (ho : V r 4 0 ≠ 0) (h : t = 318 ∨ t = 327) : f_X5_readPart D V r = f_X5_readPart_154x2 D (dv_pre (fun _ _ => dv_z) f_X5_readSum D) (dv_u (dv_u V r 6 0 (V r 6 0 + 1)) r 5 0 (V r 5 0 + 1)) (if t = 318 then 2005 else 2014) r := by
  have e : f_X5_orderCode (dv_u V r 6 0 (V r 6 0 + 1)) t = (if t = 318 then 2005 else 2014, ()) := by
    rw [c_ord2 (Or.inr h), if_neg (by omega)]
  have g : (if t = 318 then (2005 : Int) else 2014) ≠ -1 := by split <;> omega
  rw [f_X5_readPart_d]
  unfold f_X5_readPart_B
  rw [dv_bn2 hs, if_pos (by omega), bq, if_pos h50, bq, bq, bq, if_pos (by omega), bq, u_j (by decide), if_neg ho, dv_bn2 e, bq, if_neg g, if_neg (by omega), bq, bq, bq, u_j (by decide), u_j (by decide), if_neg ho, u_j (by decide)]
  by_cases k : t = 318
  · rw [if_pos k]
  · rw [if_neg k, if_neg (by omega)]
/-- a NUMBER -/
theorem c_partM (hs : f_X5_seenToken V r = (t, ())) (h50 : V r 6 0 < 50) (h4 : 400 ≤ t) {n : Int} (hn : f_X5_takeNumber (dv_u V r 6 0 (V r 6 0 + 1)) r 0 1000 = (V1, n)) : f_X5_readPart D V r = (if n = -1 then ((f_X5_fail (dv_u V1 r 5 0 (V1 r 5 0)) r).1, 0) else ((f_X10_add (dv_u V1 r 5 0 (V1 r 5 0)) (V1 r 3 0) n).1, 0)) := by
  rw [f_X5_readPart_d]
  unfold f_X5_readPart_B
  rw [dv_bn2 hs, if_pos (by omega), bq, if_pos h50, bq, bq, bq, if_neg (by omega), dv_bn2 hn, bq]
  by_cases e : n = -1
  · rw [if_pos e, if_pos e, bq, bq, bq, u_j (by decide), e, Int.add_zero]
    by_cases o0 : V1 r 4 0 = 0
    · rw [if_pos o0, c_175nx5]
    · rw [if_neg o0, if_neg (by omega), if_pos (by omega), c_175nx5]
  · rw [if_neg e, if_neg e, if_pos h4, bq, bq, bq, u_j (by decide), Int.add_zero]
    by_cases o0 : V1 r 4 0 = 0
    · rw [if_pos o0, c_175px6 e, u_j (by decide)]
    · rw [if_neg o0, if_neg (by omega), if_pos (by omega), c_175px6 e, u_j (by decide)]
/-- behind a fault nothing is read -/
theorem c_part_f (h : V r 8 0 ≠ -1) : ∃ V', f_X5_readPart D V r = (V', 0) ∧ rd_fr r x V V' ∧ V' r 8 0 = V r 8 0 ∧ V' r 7 0 = V r 7 0 := by
  have hs := c_seen_f h
  by_cases h50 : V r 6 0 < 50
  · refine ⟨_, c_partN hs (by decide) h50 (by decide) (by omega), ?_⟩
    rw [c_fail_f (by rw [u_j (by decide), u_j (by decide)]; exact h)]
    exact ⟨rd_fr_t (rd_fr_u (by decide)) (rd_fr_u (by decide)), by show dv_u _ _ _ _ _ _ _ _ = _; rw [u_j (by decide), u_j (by decide)], by show dv_u _ _ _ _ _ _ _ _ = _; rw [u_j (by decide), u_j (by decide)]⟩
  · refine ⟨_, c_part50 hs (by decide) h50, ?_⟩
    rw [c_fail_f h]
    exact ⟨rd_fr_r, rfl, rfl⟩
end QRP
section QRL
variable {V V' V1 V2 W W' W1 : dV} {r x a i t c v o p N lev h : Int} {tk pl cd vl : Int → Int} {D d : Nat} {El : Int → Int → dn → Prop}
-- the reference's parts
theorem m_part_f (h : W a 21 0 ≠ -1) : f_X12_readPart d W a lev = (W, 0) := by
  rw [f_X12_readPart_d]
  unfold f_X12_readPart_B
  rw [dv_bn2 (m_fine0 h), if_neg (fun q => q rfl)]
theorem m_part8 (k : re_cx o cd vl pl W a) (h : W a 21 0 = -1) (hc : cd (W a 19 0) = 191) (hp : pl (W a 19 0) ≠ -1) : f_X12_readPart d W a 8 = (dv_u W a 21 0 (pl (W a 19 0)), 0) := by
  rw [f_X12_readPart_d]
  unfold f_X12_readPart_B f_X12_readPart_37
  rw [dv_bn2 (m_fine1 h), if_pos (by decide), bq, bq, k.1, dv_bn2 q_sign, hc, if_neg (by decide), if_neg (by decide), dv_bn2 (m_faults k h), dv_bn2 (m_fine0 (by rw [u_e]; exact hp)), if_neg (fun q => q rfl)]
theorem m_part91 (k : re_cx o cd vl pl W a) (h : W a 21 0 = -1) (hc : cd (W a 19 0) = 191) (hl : lev ≠ 8) : f_X12_readPart d W a lev = ((f_X12_must (dv_pre (fun _ _ _ => dv_z) f_X12_readSum d (dv_u W a 19 0 (W a 19 0 + 1)) a (lev + 1)).1 a 193).1, 0) := by
  rw [f_X12_readPart_d]
  unfold f_X12_readPart_B f_X12_readPart_37
  rw [dv_bn2 (m_fine1 h), if_pos (by decide), bq, bq, k.1, dv_bn2 q_sign, hc, if_neg (by decide), if_pos hl, dv_bn2 (m_fine1 h), if_pos (by decide), bq, bq, bq, bq, bq2, dv_bn2 q_sign, bq2]
  rfl
theorem m_partN (k : re_cx o cd vl pl W a) (h : W a 21 0 = -1) (h91 : cd (W a 19 0) ≠ 191) (hn : ¬ (cd (W a 19 0) = 50 ∧ vl (W a 19 0) ≤ 1000)) (hw : cd (W a 19 0) < W a 8 0 ∨ W a 9 0 < cd (W a 19 0)) : f_X12_readPart d W a lev = (dv_u W a 21 0 (pl (W a 19 0)), 0) := by
  have e : ∀ rc, f_X12_readPart_95 d rc W (cd (W a 19 0)) a = (dv_u W a 21 0 (pl (W a 19 0)), 0) := by
    intro rc
    unfold f_X12_readPart_95 f_X12_readPart_144
    rw [bq]
    by_cases q : cd (W a 19 0) < W a 8 0
    · rw [if_pos q, dv_bn2 (m_faults k h)]
    · rw [if_neg q, bq, if_pos (by omega), dv_bn2 (m_faults k h)]
  rw [f_X12_readPart_d]
  unfold f_X12_readPart_B
  rw [dv_bn2 (m_fine1 h), if_pos (by decide), bq, bq, k.1, dv_bn2 q_sign, if_pos (show cd (W a 19 0) ≠ 100 + 91 by omega)]
  by_cases q : cd (W a 19 0) = 50
  · rw [if_neg (fun z => z q), bq, bq, k.2.1, if_neg (by omega), e]
  · rw [if_pos q, e]
theorem m_partY (k : re_cx o cd vl pl W a) (h : W a 21 0 = -1) (h91 : cd (W a 19 0) ≠ 191) (hy : (cd (W a 19 0) = 50 ∧ vl (W a 19 0) ≤ 1000) ∨ (cd (W a 19 0) ≠ 50 ∧ W a 8 0 ≤ cd (W a 19 0) ∧ cd (W a 19 0) ≤ W a 9 0)) (hl : f_X12_leaf W a = (W1, 0)) : f_X12_readPart d W a lev = if W1 a 10 0 = 0 then (W1, 0) else if cd (W a 19 0) = 14 ∨ cd (W a 19 0) = 20 then ((f_X12_mustNumber W1 a 0 8).1, 0) else (W1, 0) := by
  have e : ∀ rc, f_X12_readPart_111 d rc W (cd (W a 19 0)) a = if W1 a 10 0 = 0 then (W1, 0) else if cd (W a 19 0) = 14 ∨ cd (W a 19 0) = 20 then ((f_X12_mustNumber W1 a 0 8).1, 0) else (W1, 0) := by
    intro rc
    unfold f_X12_readPart_111 f_X12_readPart_134
    rw [dv_bn2 hl, bq]
    by_cases q : W1 a 10 0 = 0
    · rw [if_pos q, if_pos q]
    · rw [if_neg q, if_neg q]
      by_cases q4 : cd (W a 19 0) = 14
      · rw [if_pos q4, if_pos (Or.inl q4), bq2]
      · rw [if_neg q4]
        by_cases q5 : cd (W a 19 0) = 20
        · rw [if_neg (fun z => z q5), if_pos (Or.inr q5), bq2]
        · rw [if_pos q5, if_neg (by omega)]
  rw [f_X12_readPart_d]
  unfold f_X12_readPart_B
  rw [dv_bn2 (m_fine1 h), if_pos (by decide), bq, bq, k.1, dv_bn2 q_sign, if_pos (show cd (W a 19 0) ≠ 100 + 91 by omega)]
  rcases hy with ⟨q, z⟩ | ⟨q, z1, z2⟩
  · rw [if_neg (fun z => z q), bq, bq, k.2.1, if_pos z, e]
  · unfold f_X12_readPart_95
    rw [if_pos q, bq, if_neg (by omega), bq, if_neg (by omega), e]
-- both at one place
def rd_at (pl : Int → Int) (N : Int) (V W : dV) (r x a : Int) : Prop := W a 19 0 = V r 5 0 ∧ (0 ≤ V r 5 0 ∧ V r 5 0 ≤ N) ∧ W a 20 0 = V r 6 0 ∧ (0 ≤ V r 6 0 ∧ V r 6 0 ≤ 50) ∧ 0 ≤ V x 2 0 ∧ V x 2 0 ≤ pl (V r 5 0)
def rd_out (pl : Int → Int) (N h : Int) (El : Int → Int → dn → Prop) (V W : dV) (r x a : Int) (V' W' : dV) : Prop := rd_fr r x V V' ∧ re_fr a W W' ∧ V' r 7 0 = V r 7 0 ∧ W' a 21 0 = V' r 8 0 ∧ (V' r 8 0 = -1 → V r 8 0 = -1 ∧ rd_at pl N V' W' r x a ∧ V r 5 0 < V' r 5 0 ∧ V x 2 0 < V' x 2 0 ∧ V' x 2 0 - V x 2 0 ≤ pl (V' r 5 0) - pl (V r 5 0) ∧ (∀ z, z < V x 2 0 → V' x 0 z = V x 0 z) ∧ ∃ A, El (V r 5 0) (V' r 5 0) A ∧ K_seg (V' x 0) (V x 2 0) (V' x 2 0) A h)
def rd_ok (o : Int) (tk pl cd vl : Int → Int) (N lev h : Int) (El : Int → Int → dn → Prop) (fC : dV → Int → dR) (fR : dV → Int → Int → dR) : Prop := ∀ (V W : dV) (r x a : Int), rd_cx o tk pl V r x → re_cx o cd vl pl W a → V r 7 0 = lev → W a 21 0 = V r 8 0 → (V r 8 0 = -1 → rd_at pl N V W r x a) → ∃ (V' : dV) (y : Int) (W' : dV) (y' : Int), fC V r = (V', y) ∧ fR W a lev = (W', y') ∧ rd_out pl N h El V W r x a V' W'
/-- both faulty at one place -/
theorem rd_bad (f : rd_fr r x V V') (g : re_fr a W W') (h7 : V' r 7 0 = V r 7 0) (h8 : V' r 8 0 = p) (h21 : W' a 21 0 = p) (hp : p ≠ -1) : rd_out pl N h El V W r x a V' W' := ⟨f, g, h7, by rw [h8, h21], fun q => absurd (h8.symm.trans q) hp⟩
/-- one code more -/
theorem rd_push {j n : Int} {A : dn} (hxr : x ≠ r) (at0 : rd_at pl N V W r x a) (h8 : V r 8 0 = -1) (f : rd_fr r x V V2) (h7 : V2 r 7 0 = V r 7 0) (h28 : V2 r 8 0 = -1) (k0 : ∀ z, V2 x 0 z = V x 0 z) (k2 : V2 x 2 0 = V x 2 0) (g : re_fr a W W') (g21 : W' a 21 0 = -1) (g19 : W' a 19 0 = j) (g20 : W' a 20 0 = n) (h5 : V2 r 5 0 = j) (h6 : V2 r 6 0 = n) (hn : 0 ≤ n ∧ n ≤ 50) (hj : V r 5 0 < j ∧ j ≤ N) (hpl : pl (V r 5 0) + 1 ≤ pl j) (p400 : pl j ≤ 400) (hE : El (V r 5 0) j A) (hc : c ≠ -1) (hK : ∀ (X : Int → Int) (p : Int), X p = c → K_seg X p (p + 1) A h) : rd_out pl N h El V W r x a (f_X10_add V2 x c).1 W' := by
  obtain ⟨a1, a2, a3, a4, a5, a6⟩ := at0
  rw [c_add hc (by rw [k2]; omega)]
  have R : ∀ (m : Nat) (z : Int), dv_u (dv_u V2 x 0 (V2 x 2 0) c) x 2 0 (V2 x 2 0 + 1) r m z = V2 r m z := fun m z => by rw [u_b (Ne.symm hxr), u_b (Ne.symm hxr)]
  refine ⟨rd_fr_t f (rd_fr_t (rd_fr_x (by decide)) (rd_fr_x (by decide))), g, by show dv_u _ _ _ _ _ _ _ _ = _; rw [R, h7], by show _ = dv_u _ _ _ _ _ _ _ _; rw [R, g21, h28], fun _ => ⟨h8, ?_⟩⟩
  show rd_at pl N (dv_u (dv_u V2 x 0 (V2 x 2 0) c) x 2 0 (V2 x 2 0 + 1)) W' r x a ∧ V r 5 0 < dv_u (dv_u V2 x 0 (V2 x 2 0) c) x 2 0 (V2 x 2 0 + 1) r 5 0 ∧ V x 2 0 < dv_u (dv_u V2 x 0 (V2 x 2 0) c) x 2 0 (V2 x 2 0 + 1) x 2 0 ∧ dv_u (dv_u V2 x 0 (V2 x 2 0) c) x 2 0 (V2 x 2 0 + 1) x 2 0 - V x 2 0 ≤ pl (dv_u (dv_u V2 x 0 (V2 x 2 0) c) x 2 0 (V2 x 2 0 + 1) r 5 0) - pl (V r 5 0) ∧ (∀ z, z < V x 2 0 → dv_u (dv_u V2 x 0 (V2 x 2 0) c) x 2 0 (V2 x 2 0 + 1) x 0 z = V x 0 z) ∧ ∃ A, El (V r 5 0) (dv_u (dv_u V2 x 0 (V2 x 2 0) c) x 2 0 (V2 x 2 0 + 1) r 5 0) A ∧ K_seg (dv_u (dv_u V2 x 0 (V2 x 2 0) c) x 2 0 (V2 x 2 0 + 1) x 0) (V x 2 0) (dv_u (dv_u V2 x 0 (V2 x 2 0) c) x 2 0 (V2 x 2 0 + 1) x 2 0) A h
  rw [R, u_e, h5]
  refine ⟨⟨?_, ?_, ?_, ?_, ?_, ?_⟩, hj.1, by omega, by omega, fun z hz => ?_, A, hE, ?_⟩
  · rw [R, h5, g19]
  · rw [R, h5]; omega
  · rw [R, h6, g20]
  · rw [R, h6]; exact hn
  · rw [u_e]; omega
  · rw [R, u_e, h5]; omega
  · rw [u_j (by decide), u_i (by omega), k0]
  · rw [← k2]
    refine hK _ _ ?_
    rw [u_j (by decide), u_e]
end QRL
