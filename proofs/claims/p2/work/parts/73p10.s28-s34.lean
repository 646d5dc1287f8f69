section QTL
variable {V V' V0 V1 V2 U U1 W W' W0 W1 W2 : dV} {a z t k s p x y u o r q n c : Int} {A : Nat → Int}
theorem dv_rem_ok {a b : Int} (a0 : 0 ≤ a) (a1 : a ≤ 2147483647) (b0 : 1 ≤ b) (b1 : b ≤ 2147483647) : dv_rem a b = a % b := by
  have h1 := Int.mul_ediv_add_emod a b
  have h2 := Int.emod_nonneg a (show b ≠ 0 by omega)
  have h3 := Int.emod_lt_of_pos a (show 0 < b by omega)
  have h4 : 0 ≤ a / b := Int.ediv_nonneg a0 (by omega)
  have h5 : a / b ≤ a := Int.ediv_le_self b a0
  rw [Int.mul_comm] at h1
  unfold dv_rem
  rw [Int32.toInt_sub, Int32.toInt_mul, Int32.toInt_div, dv_ofInt (by omega) (by omega), dv_ofInt (by omega) (by omega), Int.tdiv_eq_ediv_of_nonneg a0, dv_bm (n := a / b) (by omega) (by omega), dv_bm (n := a / b * b) (by omega) (by omega), dv_bm (by omega) (by omega)]
  omega
theorem dv_lrem2 {a b : Int} (a0 : 0 ≤ a) (a1 : a ≤ 2147483647) (b0 : 1 ≤ b) (b1 : b ≤ 2147483647) : dv_lrem a b = a % b := by
  have h1 := Int.mul_ediv_add_emod a b
  have h2 := Int.emod_nonneg a (show b ≠ 0 by omega)
  have h3 := Int.emod_lt_of_pos a (show 0 < b by omega)
  have h4 : 0 ≤ a / b := Int.ediv_nonneg a0 (by omega)
  have h5 : a / b ≤ a := Int.ediv_le_self b a0
  rw [Int.mul_comm] at h1
  unfold dv_lrem
  rw [Int64.toInt_sub, Int64.toInt_mul, Int64.toInt_div, dv_lof (by omega) (by omega), dv_lof (by omega) (by omega), Int.tdiv_eq_ediv_of_nonneg a0, dv_bm6 (n := a / b) (by omega) (by omega), dv_bm6 (n := a / b * b) (by omega) (by omega), dv_bm6 (by omega) (by omega)]
  omega
/-- the next draw -/
def nx (p : Int) : Int := (1103 * p + 12345) % 1000003
theorem nx_b : 0 ≤ nx p ∧ nx p ≤ 1000002 := by unfold nx; omega
theorem c_next (h : 0 ≤ p ∧ p ≤ 1000002) : f_X11_nextDraw V p = (nx p, ()) := by
  unfold f_X11_nextDraw nx
  rw [bq, bq, bq, dv_mul_ok (by omega) (by omega) (by omega) (by omega) (by omega) (by omega), dv_add_ok (by omega) (by omega) (by omega) (by omega) (by omega) (by omega), dv_rem_ok (by omega) (by omega) (by omega) (by omega), Int.mul_comm]
theorem m_draws (hp : W a 56 0 = p) (h : 0 ≤ p ∧ p ≤ 1000002) : f_X12_draws W a n = (dv_u W a 56 0 (nx p), nx p % n) := by
  have b := nx_b (p := p)
  have e : dv_l2i (dv_lrem (dv_ladd (dv_lmul 1103 (W a 56 0)) 12345) 1000003) = nx p := by
    rw [hp, dv_lmul_ok (by omega) (by omega), dv_ladd_ok (by unfold lb; omega) (by unfold lb; omega), dv_lrem2 (by omega) (by omega) (by omega) (by omega)]
    exact dv_l2i_ok (by have := nx_b (p := p); unfold nx at this; omega) (by have := nx_b (p := p); unfold nx at this; omega)
  unfold f_X12_draws
  rw [bq, bq, bq, bq, bq, bq, e, bq, bq, u_e, bq]
theorem rem_b (n1 : 1 ≤ n) : 0 ≤ p % n ∧ p % n < n := ⟨Int.emod_nonneg p (by omega), Int.emod_lt_of_pos p (by omega)⟩
/-- what a drawn year changes -/
def YF (A : Nat → Int) (a : Int) (V W V' W' : dV) : Prop := (∀ b m z, ¬ (b = A 7 ∧ (m = 2 ∨ m = 3 ∨ m = 4 ∨ m = 5)) → ¬ (b = A 14 ∧ m ≤ 3) → V' b m z = V b m z) ∧ (∀ z, z ≠ 0 → V' (A 7) 5 z = V (A 7) 5 z) ∧ (∀ z, 8 ≤ z → V' (A 14) 1 z = V (A 14) 1 z) ∧ (∀ b m z, ¬ (b = a ∧ (m = 2 ∨ (22 ≤ m ∧ m ≤ 26) ∨ (29 ≤ m ∧ m ≤ 30) ∨ m = 56)) → W' b m z = W b m z) ∧ ∀ z, 29 ≤ z → W' a 2 z = W a 2 z
theorem YF_r : YF A a V W V W := ⟨fun _ _ _ _ _ => rfl, fun _ _ => rfl, fun _ _ => rfl, fun _ _ _ _ => rfl, fun _ _ => rfl⟩
theorem YF_t (h : YF A a V W V' W') (k : YF A a V' W' V1 W1) : YF A a V W V1 W1 := ⟨fun b m z p q => (k.1 b m z p q).trans (h.1 b m z p q), fun z hz => (k.2.1 z hz).trans (h.2.1 z hz), fun z hz => (k.2.2.1 z hz).trans (h.2.2.1 z hz), fun b m z p => (k.2.2.2.1 b m z p).trans (h.2.2.2.1 b m z p), fun z hz => (k.2.2.2.2 z hz).trans (h.2.2.2.2 z hz)⟩
theorem YF_j (hA : inj A) (f : kj_fr (A 14) V V') (g : jm_fr a W W') : YF A a V W V' W' := ⟨fun b m z _ p => f.1 b m z p, fun z _ => f.1 _ _ _ (fun q => inj_n hA (by decide) (by decide) (by decide) q.1), f.2, fun b m z p => g b m z (fun q => p ⟨q.1, by omega⟩), fun z _ => g _ _ _ (fun q => absurd q.2 (by omega))⟩
theorem YF_w (hz : z < 29) : YF A a V W V (dv_u W a 2 z y) := ⟨fun _ _ _ _ _ => rfl, fun _ _ => rfl, fun _ _ => rfl, fun b m' z' p => by
  by_cases q : b = a
  · exact u_j (fun w => p ⟨q, Or.inl w⟩)
  · exact u_b q, fun z' h => u_i (by omega)⟩
theorem YF_56 : YF A a V W V (dv_u W a 56 0 y) := ⟨fun _ _ _ _ _ => rfl, fun _ _ => rfl, fun _ _ => rfl, fun b m' z' p => by
  by_cases q : b = a
  · exact u_j (fun w => p ⟨q, by omega⟩)
  · exact u_b q, fun z' _ => u_j (by decide)⟩
theorem YF_u {m : Nat} (hA : inj A) (hm : m = 2 ∨ m = 3 ∨ m = 4) : YF A a V W (dv_u V (A 7) m z y) W := ⟨fun b m' z' p _ => by
  by_cases q : b = A 7
  · exact u_j (fun w => p ⟨q, by omega⟩)
  · exact u_b q, fun z' _ => u_j (by omega), fun z' _ => u_b (inj_n hA (by decide) (by decide) (by decide)), fun _ _ _ _ => rfl, fun _ _ => rfl⟩
/-- the paper's relation, behind a change of the paper -/
theorem JX_y (h : JX A a 7 V W) (f : YF A a V W V' W') (e : ef9 (V' (A 7)) (kf (W' a 2) 0)) (g : kgf (V' (A 7))) (b27 : 0 ≤ W' a 2 27 ∧ W' a 2 27 ≤ 9999) : JX A a 7 V' W' := by
  obtain ⟨hA, hG, hl, hr, -, -⟩ := h
  have F : cf A (fun i m => (i == 7 && (2 ≤ m && m ≤ 5)) || (i == 14 && m ≤ 3)) V V' := fun i m z hi hm hL => f.1 _ m z (fun q => by
    have := hA.1 i 7 hi (by decide) q.1
    subst this
    simp at hL; omega) (fun q => by
    have := hA.1 i 14 hi (by decide) q.1
    subst this
    simp at hL; omega)
  exact ⟨hA, G_c hG (cf_ag F rfl), laR_c (by decide) hl (cf_ag F rfl) (fun z hz => by rw [Int.zero_add]; exact f.2.2.2.2 z (by omega)), rdR_c hr (fun z => F 10 1 z (by decide) (by decide) rfl) f.2.2.1 (fun z => f.2.2.2.1 a 7 z (fun q => absurd q.2 (by omega))) (fun z => f.2.2.2.1 a 17 z (fun q => absurd q.2 (by omega))), ⟨e, g⟩, Or.inr rfl, b27⟩
theorem y_roll (h : JX A a 7 V W) (hc : 0 ≤ c ∧ c < V (A 7) 7 0) : JX A a 7 (dv_u (dv_u V (A 7) 3 c (-1)) (A 7) 4 c (-1)) (dv_u (dv_u W a 2 (9 + c) (-1)) a 2 (18 + c) (-1)) ∧ YF A a V W (dv_u (dv_u V (A 7) 3 c (-1)) (A 7) 4 c (-1)) (dv_u (dv_u W a 2 (9 + c) (-1)) a 2 (18 + c) (-1)) := by
  obtain ⟨hA, -, -, -, ⟨hf, kk⟩, -, h27⟩ := id h
  obtain ⟨e7, e8, e9, e50, e51, e52, ec⟩ := ef9_n hf
  have n9 := kk.1.1
  have fj : ∀ (j : Nat) (z : Int), j ≠ 3 → j ≠ 4 → dv_u (dv_u V (A 7) 3 c (-1)) (A 7) 4 c (-1) (A 7) j z = V (A 7) j z := fun j z n3 n4 => by rw [u_j n4, u_j n3]
  have f3 : ∀ z, dv_u (dv_u V (A 7) 3 c (-1)) (A 7) 4 c (-1) (A 7) 3 z = if z = c then -1 else V (A 7) 3 z := fun z => by rw [u_j (by decide), u_if]
  have f4 : ∀ z, dv_u (dv_u V (A 7) 3 c (-1)) (A 7) 4 c (-1) (A 7) 4 z = if z = c then -1 else V (A 7) 4 z := fun z => by rw [u_if, u_j (by decide)]
  have w2 : ∀ z, dv_u (dv_u W a 2 (9 + c) (-1)) a 2 (18 + c) (-1) a 2 z = if z = 18 + c then -1 else if z = 9 + c then -1 else W a 2 z := fun z => by rw [u_if, u_if]
  have wn : ∀ z, z ≠ 9 + c → z ≠ 18 + c → dv_u (dv_u W a 2 (9 + c) (-1)) a 2 (18 + c) (-1) a 2 z = W a 2 z := fun z n1 n2 => by rw [w2, if_neg n2, if_neg n1]
  have Y : YF A a V W (dv_u (dv_u V (A 7) 3 c (-1)) (A 7) 4 c (-1)) (dv_u (dv_u W a 2 (9 + c) (-1)) a 2 (18 + c) (-1)) := YF_t (YF_t (YF_t (YF_u hA (by decide)) (YF_u hA (by decide))) (YF_w (by omega))) (YF_w (by omega))
  refine ⟨JX_y h Y (ef9_of ⟨?_, ?_, ?_, ?_, ?_, ?_, fun d d0 d9 => ?_⟩) (kg_sub kk (fun d d0 d1 => ⟨fj 0 d (by decide) (by decide), fj 1 d (by decide) (by decide), ?_, ?_⟩) (fj 7 0 (by decide) (by decide)) (fj 8 0 (by decide) (by decide)) (fj 9 0 (by decide) (by decide)) ?_ ?_ (fj 5 1 (by decide) (by decide)) (fj 5 2 (by decide) (by decide))) (by rw [wn 27 (by omega) (by omega)]; exact h27), Y⟩
  · rw [fj 7 0 (by decide) (by decide), wn 69 (by omega) (by omega), e7]
  · rw [fj 8 0 (by decide) (by decide), wn 67 (by omega) (by omega), e8]
  · rw [fj 9 0 (by decide) (by decide), wn 68 (by omega) (by omega), e9]
  · rw [fj 5 0 (by decide) (by decide), wn 28 (by omega) (by omega), e50]
  · rw [fj 5 1 (by decide) (by decide), wn 65 (by omega) (by omega), e51]
  · rw [fj 5 2 (by decide) (by decide), wn 66 (by omega) (by omega), e52]
  · obtain ⟨r0, r1, r2, r3, r4⟩ := ec d d0 d9
    refine ⟨by rw [fj 0 d (by decide) (by decide), wn _ (by omega) (by omega), r0], by rw [fj 1 d (by decide) (by decide), wn _ (by omega) (by omega), r1], by rw [fj 2 d (by decide) (by decide), wn _ (by omega) (by omega), r2], ?_, ?_⟩
    · rw [f3, w2, if_neg (show ¬ 9 + d = 18 + c by omega)]
      by_cases q : d = c
      · rw [if_pos q, if_pos (by omega)]
      · rw [if_neg q, if_neg (by omega)]; exact r3
    · rw [f4, w2]
      by_cases q : d = c
      · rw [if_pos q, if_pos (by omega)]
      · rw [if_neg q, if_neg (by omega), if_neg (by omega)]; exact r4
  · rw [fj 2 d (by decide) (by decide)]; exact (kk.2.2.1 d d0 d1).2.2.2
  · rw [f3, f4]
    by_cases q : d = c
    · exact Or.inr (by rw [if_pos q])
    · rw [if_neg q, if_neg q]; exact Or.inl ⟨rfl, rfl⟩
  · rw [fj 10 0 (by decide) (by decide)]; exact kk.2.2.2.2.2.1
  · rw [fj 5 0 (by decide) (by decide)]; exact kk.2.2.2.2.2.2.1
end QTL
section QTM
variable {V V' V0 V1 V2 U U1 W W' W0 W1 W2 : dV} {a z t k s p x y u o r q n c : Int} {A : Nat → Int}
theorem y_put (h : JX A a 7 V W) (hp : plc (V (A 7)) c x y) (hx : x ≤ 11) (hy : y ≤ 11) (ht : 0 ≤ t ∧ t ≤ 99) : JX A a 7 (dv_u (dv_u V (A 7) 3 c x) (A 7) 4 c y) (dv_u (dv_u (dv_u W a 2 (9 + c) x) a 2 (18 + c) y) a 2 27 (min 9999 (dv_add (W a 2 27) t))) ∧ YF A a V W (dv_u (dv_u V (A 7) 3 c x) (A 7) 4 c y) (dv_u (dv_u (dv_u W a 2 (9 + c) x) a 2 (18 + c) y) a 2 27 (min 9999 (dv_add (W a 2 27) t))) := by
  obtain ⟨hA, -, -, -, ⟨hf, kk⟩, -, h27⟩ := id h
  obtain ⟨e7, e8, e9, e50, e51, e52, ec⟩ := ef9_n hf
  have n9 := kk.1.1
  have hc := hp.1
  have ha : dv_add (W a 2 27) t = W a 2 27 + t := dv_add_ok (by omega) (by omega) (by omega) (by omega) (by omega) (by omega)
  have fj : ∀ (j : Nat) (z : Int), j ≠ 3 → j ≠ 4 → dv_u (dv_u V (A 7) 3 c x) (A 7) 4 c y (A 7) j z = V (A 7) j z := fun j z n3 n4 => by rw [u_j n4, u_j n3]
  have f3 : ∀ z, dv_u (dv_u V (A 7) 3 c x) (A 7) 4 c y (A 7) 3 z = if z = c then x else V (A 7) 3 z := fun z => by rw [u_j (by decide), u_if]
  have f4 : ∀ z, dv_u (dv_u V (A 7) 3 c x) (A 7) 4 c y (A 7) 4 z = if z = c then y else V (A 7) 4 z := fun z => by rw [u_if, u_j (by decide)]
  have w2 : ∀ z, dv_u (dv_u (dv_u W a 2 (9 + c) x) a 2 (18 + c) y) a 2 27 (min 9999 (dv_add (W a 2 27) t)) a 2 z = if z = 27 then min 9999 (dv_add (W a 2 27) t) else if z = 18 + c then y else if z = 9 + c then x else W a 2 z := fun z => by rw [u_if, u_if, u_if]
  have wn : ∀ z, z ≠ 27 → z ≠ 9 + c → z ≠ 18 + c → dv_u (dv_u (dv_u W a 2 (9 + c) x) a 2 (18 + c) y) a 2 27 (min 9999 (dv_add (W a 2 27) t)) a 2 z = W a 2 z := fun z n0 n1 n2 => by rw [w2, if_neg n0, if_neg n2, if_neg n1]
  have Y : YF A a V W (dv_u (dv_u V (A 7) 3 c x) (A 7) 4 c y) (dv_u (dv_u (dv_u W a 2 (9 + c) x) a 2 (18 + c) y) a 2 27 (min 9999 (dv_add (W a 2 27) t))) := YF_t (YF_t (YF_t (YF_t (YF_u hA (by decide)) (YF_u hA (by decide))) (YF_w (by omega))) (YF_w (by omega))) (YF_w (by decide))
  refine ⟨JX_y h Y (ef9_of ⟨?_, ?_, ?_, ?_, ?_, ?_, fun d d0 d9 => ?_⟩) (kg_lay kk hp (fun j z n3 n4 _ => fj j z n3 n4) f3 f4 (by rw [fj 10 0 (by decide) (by decide)]; exact kk.2.2.2.2.2.1)) (by rw [w2, if_pos rfl, ha]; omega), Y⟩
  · rw [fj 7 0 (by decide) (by decide), wn 69 (by omega) (by omega) (by omega), e7]
  · rw [fj 8 0 (by decide) (by decide), wn 67 (by omega) (by omega) (by omega), e8]
  · rw [fj 9 0 (by decide) (by decide), wn 68 (by omega) (by omega) (by omega), e9]
  · rw [fj 5 0 (by decide) (by decide), wn 28 (by omega) (by omega) (by omega), e50]
  · rw [fj 5 1 (by decide) (by decide), wn 65 (by omega) (by omega) (by omega), e51]
  · rw [fj 5 2 (by decide) (by decide), wn 66 (by omega) (by omega) (by omega), e52]
  · obtain ⟨r0, r1, r2, r3, r4⟩ := ec d d0 d9
    refine ⟨by rw [fj 0 d (by decide) (by decide), wn _ (by omega) (by omega) (by omega), r0], by rw [fj 1 d (by decide) (by decide), wn _ (by omega) (by omega) (by omega), r1], by rw [fj 2 d (by decide) (by decide), wn _ (by omega) (by omega) (by omega), r2], ?_, ?_⟩
    · rw [f3, w2, if_neg (show ¬ 9 + d = 27 by omega), if_neg (show ¬ 9 + d = 18 + c by omega)]
      by_cases q : d = c
      · rw [if_pos q, if_pos (by omega)]
      · rw [if_neg q, if_neg (by omega)]; exact r3
    · rw [f4, w2, if_neg (show ¬ 18 + d = 27 by omega)]
      by_cases q : d = c
      · rw [if_pos q, if_pos (by omega)]
      · rw [if_neg q, if_neg (by omega), if_neg (by omega)]; exact r4
/-- the year passes on the paper -/
theorem y_end (h : JX A a 7 V W) (hy : V (A 7) 5 0 ≤ 998) : ∃ V' W', f_X11_drawYear_160 V p (A 0) = (V', p) ∧ f_X12_years_163 W a t q = Sum.inl (W', a, t, q + 1) ∧ JX A a 7 V' W' ∧ YF A a V W V' W' := by
  obtain ⟨lx, hlx, -⟩ := JX_jd h
  obtain ⟨V', W', u, y1, y2, y3, y4, y5, y6, y7, y8, y9, y10, y11⟩ := W_year h hlx hy
  have hA := h.1
  obtain ⟨⟨g0, -, -, g3, -, -, -, -, -, g9, -⟩, -⟩ := h.2.1
  have h27 := h.2.2.2.2.2.2
  have Y : YF A a V W V' W' := ⟨fun b m z n1 n2 => y4 b m z n1 n2, y6, y5, fun b m z n1 => y7 b m z (fun w => n1 ⟨w.1, by omega⟩), y8⟩
  refine ⟨V', W', ?_, ?_, JX_y h Y y10.1 y10.2 (by rw [y9]; exact h27), Y⟩
  · unfold f_X11_drawYear_160
    rw [bq, g3, bq, g9, bq, g0, dv_bn2 hlx, dv_bn2 y1]
  · unfold f_X12_years_163
    rw [dv_bn2 y2, bq]
/-- a drawn year, in both -/
theorem one_year (h : JX A a 7 V W) (hp : W a 56 0 = p) (pb : 0 ≤ p ∧ p ≤ 1000002) (hn : 1 ≤ V (A 7) 7 0) (hy : V (A 7) 5 0 ≤ 998) (hq : q < t) : ∃ V' W', f_X11_drawYear V (A 0) p = (V', nx (nx (nx (nx p)))) ∧ f_X12_years_60b (W, a, t, q) = Sum.inl (W', a, t, q + 1) ∧ W' a 56 0 = nx (nx (nx (nx p))) ∧ JX A a 7 V' W' ∧ YF A a V W V' W' := by
  obtain ⟨hA, hG, -, -, ⟨hf, kk⟩, -, h27⟩ := id h
  obtain ⟨⟨g0, -, -, g3, -, -, -, -, -, g9, -⟩, -⟩ := hG
  obtain ⟨e7, e8, e9, e50, e51, e52, ec⟩ := ef9_n hf
  have n9 := kk.1.1
  have w12 := kk.1.2.1
  have h12 := kk.1.2.2.1
  have wp := kk.2.2.2.2.1
  obtain ⟨p1, hp1⟩ : ∃ p1, p1 = nx p := ⟨_, rfl⟩
  obtain ⟨p2, hp2⟩ : ∃ p2, p2 = nx p1 := ⟨_, rfl⟩
  obtain ⟨p3, hp3⟩ : ∃ p3, p3 = nx p2 := ⟨_, rfl⟩
  obtain ⟨p4, hp4⟩ : ∃ p4, p4 = nx p3 := ⟨_, rfl⟩
  have b1 : 0 ≤ p1 ∧ p1 ≤ 1000002 := by rw [hp1]; exact nx_b
  have b2 : 0 ≤ p2 ∧ p2 ≤ 1000002 := by rw [hp2]; exact nx_b
  have b3 : 0 ≤ p3 ∧ p3 ≤ 1000002 := by rw [hp3]; exact nx_b
  have b4 : 0 ≤ p4 ∧ p4 ≤ 1000002 := by rw [hp4]; exact nx_b
  rw [← hp1, ← hp2, ← hp3, ← hp4]
  obtain ⟨c, hc⟩ : ∃ c, c = p1 % V (A 7) 7 0 := ⟨_, rfl⟩
  obtain ⟨x, hx⟩ : ∃ x, x = p2 % V (A 7) 8 0 := ⟨_, rfl⟩
  obtain ⟨y, hyy⟩ : ∃ y, y = p3 % V (A 7) 9 0 := ⟨_, rfl⟩
  obtain ⟨d, hd⟩ : ∃ d, d = p4 % 3 := ⟨_, rfl⟩
  have cb : 0 ≤ c ∧ c < V (A 7) 7 0 := by rw [hc]; exact rem_b hn
  have xb : 0 ≤ x ∧ x < V (A 7) 8 0 := by rw [hx]; exact rem_b wp.1
  have yb : 0 ≤ y ∧ y < V (A 7) 9 0 := by rw [hyy]; exact rem_b wp.2
  have db : 0 ≤ d ∧ d < 3 := by rw [hd]; exact rem_b (by decide)
  -- the class's draws
  have CV : ∀ Z, f_X11_drawYear_97 V x c p4 (A 0) y = Z → f_X11_drawYear V (A 0) p = Z := by
    intro Z hZ
    have d1 : f_X11_nextDraw V p = (p1, ()) := by rw [hp1]; exact c_next pb
    have d2 : f_X11_nextDraw V p1 = (p2, ()) := by rw [hp2]; exact c_next b1
    have d3 : f_X11_nextDraw V p2 = (p3, ()) := by rw [hp3]; exact c_next b2
    have d4 : f_X11_nextDraw V p3 = (p4, ()) := by rw [hp4]; exact c_next b3
    unfold f_X11_drawYear f_X11_drawYear_46 f_X11_drawYear_71
    rw [dv_bn2 d1, dv_bn2 d2, dv_bn2 d3, dv_bn2 d4, bq, g3, bq, if_neg (show ¬ V (A 7) 7 0 ≤ 0 by omega), bq, bq, bq, dv_rem_ok b1.1 (by omega) hn (by omega), ← hc, bq, bq, if_neg (show ¬ V (A 7) 8 0 ≤ 0 by omega), bq, bq, bq, dv_rem_ok b2.1 (by omega) wp.1 (by omega), ← hx, bq, bq, if_neg (show ¬ V (A 7) 9 0 ≤ 0 by omega), bq, bq, bq, dv_rem_ok b3.1 (by omega) wp.2 (by omega), ← hyy]
    exact hZ
  -- the reference's draws
  have k2 : ∀ v z, dv_u W a 56 0 v a 2 z = W a 2 z := fun v z => u_j (by decide)
  have CW : ∀ Z, (if 2 ≤ d then f_X12_years_151 (dv_u W a 56 0 p4) d c a t q else dv_b2 (f_X12_canLay (dv_u W a 56 0 p4) a c x y) fun V134 x37 => if x37 = 0 then f_X12_years_151 V134 d c a t q else dv_b2 (f_X12_laysAt V134 a c x y) fun V147 _ => f_X12_years_151 V147 d c a t q) = Z → f_X12_years_60b (W, a, t, q) = Z := by
    intro Z hZ
    have d1 : f_X12_draws W a (W a 2 69) = (dv_u W a 56 0 p1, c) := by rw [m_draws hp pb, ← hp1, hc, e7]
    have d2 : f_X12_draws (dv_u W a 56 0 p1) a (W a 2 67) = (dv_u W a 56 0 p2, x) := by rw [m_draws (p := p1) u_e b1, dv_uu, ← hp2, hx, e8]
    have d3 : f_X12_draws (dv_u W a 56 0 p2) a (W a 2 68) = (dv_u W a 56 0 p3, y) := by rw [m_draws (p := p2) u_e b2, dv_uu, ← hp3, hyy, e9]
    have d4 : f_X12_draws (dv_u W a 56 0 p3) a 3 = (dv_u W a 56 0 p4, d) := by rw [m_draws (p := p3) u_e b3, dv_uu, ← hp4, hd]
    rw [f_X12_years_60e]
    unfold f_X12_years_60c
    rw [if_neg (by omega), bq, if_neg (by omega), dv_bn2 q_many, dv_bn2 d1, bq, k2, dv_bn2 d2, bq, k2, dv_bn2 d3, dv_bn2 d4]
    exact hZ
  have h4 : JX A a 7 V (dv_u W a 56 0 p4) := JX_y h YF_56 (by rw [show dv_u W a 56 0 p4 a 2 = W a 2 from funext (k2 p4)]; exact hf) kk (by rw [k2]; exact h27)
  have w56 : dv_u W a 56 0 p4 a 56 0 = p4 := u_e
  have Y4 : YF A a V W V (dv_u W a 56 0 p4) := YF_56
  generalize dv_u W a 56 0 p4 = W4 at CW h4 w56 Y4
  -- the end, whatever was done
  have FIN : ∀ (V5 W5 : dV), JX A a 7 V5 W5 → YF A a V W4 V5 W5 → W5 a 56 0 = p4 → V5 (A 7) 5 0 = V (A 7) 5 0 → (∀ Z, f_X11_drawYear_160 V5 p4 (A 0) = Z → f_X11_drawYear V (A 0) p = Z) → (∀ Z, f_X12_years_163 W5 a t q = Z → f_X12_years_60b (W, a, t, q) = Z) → ∃ V' W', f_X11_drawYear V (A 0) p = (V', p4) ∧ f_X12_years_60b (W, a, t, q) = Sum.inl (W', a, t, q + 1) ∧ W' a 56 0 = p4 ∧ JX A a 7 V' W' ∧ YF A a V W V' W' := by
    intro V5 W5 h5 Y5 q56 q5 hV hW
    obtain ⟨V', W', z1, z2, z3, z4⟩ := y_end (p := p4) (t := t) (q := q) h5 (by rw [q5]; exact hy)
    obtain ⟨lx, hlx, -⟩ := JX_jd h5
    obtain ⟨V6, W6, u, y1, y2, -, -, -, -, y7, -⟩ := W_year h5 hlx (by rw [q5]; exact hy)
    have eW : W' = W6 := by
      unfold f_X12_years_163 at z2
      rw [dv_bn2 y2, bq] at z2
      exact (congrArg Prod.fst (Sum.inl.inj z2)).symm
    refine ⟨V', W', hV _ z1, hW _ z2, ?_, z3, YF_t (YF_t Y4 Y5) z4⟩
    rw [eW, y7 a 56 0 (fun w => absurd w.2 (by decide)), q56]
  by_cases ed : d = 2
  · -- rolled
    obtain ⟨R, Y⟩ := y_roll h4 cb
    refine FIN _ _ R Y (by rw [u_j (by decide), u_j (by decide)]; exact w56) (by rw [u_j (by decide), u_j (by decide)]) (fun Z hZ => CV _ ?_) (fun Z hZ => CW _ ?_)
    · unfold f_X11_drawYear_97
      rw [bq, dv_rem_ok b4.1 (by omega) (by decide) (by decide), ← hd, if_neg (fun w => w ed), bq, g3, dv_bn2 (c_rollUp cb)]
      exact hZ
    · unfold f_X12_years_151
      rw [if_pos (by omega), if_neg (fun w => w ed), dv_bn2 m_rolls]
      exact hZ
  · obtain ⟨V5, W5, u, c1, c2, c3, c4, c5⟩ := q_can h4 cb.1 cb.2 (x := x) (y := y) (by omega) (by omega)
    have h5 := JX_c h4 c3 c4
    have Y5 := YF_j hA c3 c4
    have v5 : ∀ m z, V5 (A 7) m z = V (A 7) m z := fun m z => kj_b hA c3 (by decide) (by decide)
    have v50 : ∀ m z, V5 (A 0) m z = V (A 0) m z := fun m z => kj_b hA c3 (by decide) (by decide)
    have q56 : W5 a 56 0 = p4 := by rw [c4 a 56 0 (fun w => absurd w.2 (by decide)), w56]
    have N : ∀ U : dV, f_X12_years_151 U d c a t q = f_X12_years_163 U a t q := fun U => by
      unfold f_X12_years_151
      rw [if_pos ed]
    by_cases eu : u = 0
    · refine FIN V5 W5 h5 Y5 q56 (v5 5 0) (fun Z hZ => CV _ ?_) (fun Z hZ => CW _ ?_)
      · unfold f_X11_drawYear_97
        rw [bq, dv_rem_ok b4.1 (by omega) (by decide) (by decide), ← hd, if_pos ed, bq, g3, dv_bn2 c1, if_pos eu]
        exact hZ
      · rw [if_neg (by omega), dv_bn2 c2, if_pos eu, N]
        exact hZ
    · have hpl : plc (V (A 7)) c x y := by rcases c5 with q | q; exact q.2; exact absurd q eu
      obtain ⟨lx, hlx, hjd⟩ := JX_jd h5
      obtain ⟨V6, W6, tt, d1, d2, d3, d4, d5⟩ := q_cost (c := c) (px := x) (py := y) hjd cb.1 (by rw [v5]; exact cb.2) (by omega) (by omega)
      have kr : kj_fr (A 14) V5 V5 := ⟨fun _ _ _ _ => rfl, fun _ _ => rfl⟩
      have h6 : JX A a 7 V5 W6 := JX_c h5 kr (jm_e d4)
      have Y6 : YF A a V5 W5 V5 W6 := YF_j hA kr (jm_e d4)
      obtain ⟨R, Y7⟩ := y_put (c := c) (x := x) (y := y) (t := tt) h6 (by rw [show V5 (A 7) = V (A 7) from funext fun m => funext fun z => v5 m z]; exact hpl) (by omega) (by omega) d5
      refine FIN _ _ R (YF_t (YF_t Y5 Y6) Y7) ?_ (by rw [u_j (by decide), u_j (by decide), v5]) (fun Z hZ => CV _ ?_) (fun Z hZ => CW _ ?_)
      · rw [u_j (by decide), u_j (by decide), u_j (by decide), d4 a 56 0 (fun w => absurd w.2 (by decide)), q56]
      · unfold f_X11_drawYear_97
        have g53 : V5 (A 0) 3 0 = A 7 := by rw [v50, g3]
        have g63 : dv_u V5 (A 7) 3 c x (A 0) 3 0 = A 7 := by rw [u_b (inj_n hA (by decide) (by decide) (by decide)), g53]
        rw [bq, dv_rem_ok b4.1 (by omega) (by decide) (by decide), ← hd, if_pos ed, bq, g3, dv_bn2 c1, if_neg eu, bq, g53, bq, bq, g63, bq]
        exact hZ
      · have q27 : dv_u (dv_u W6 a 2 (9 + c) x) a 2 (18 + c) y a 2 27 = W6 a 2 27 := by
          rw [u_i (by omega), u_i (by omega)]
        rw [if_neg (by omega), dv_bn2 c2, if_neg eu, dv_bn2 (m_laysAt d2), q27, N]
        exact hZ
end QTM
section QTN
variable {V V' V0 V1 V2 U U1 W W' W0 W1 W2 : dV} {a z s x y u o r n c : Int} {A : Nat → Int} {i : Nat}
theorem y_bare (h : JX A a i V W) : f_X1_bareCells V (A i) = (bar (V (A i)), ()) ∧ f_X12_bareMany W a = (bar (V (A i)), ()) := by
  obtain ⟨-, -, -, -, ⟨hf, kk⟩, -⟩ := h
  refine ⟨q_bareCells kk.1, ?_⟩
  have e0 : ef (fun j z => if j = 10 then kf (W a 2) 0 10 0 else V (A i) j z) (kf (W a 2) 0) := ef_10 (φ := fun j z => if j = 10 then kf (W a 2) 0 10 0 else V (A i) j z) hf rfl
  have hq : qs (sqf (V (A i))) (V (A i) 7 0).toNat = qs (sqf (kf (W a 2) 0)) (kf (W a 2) 0 7 0).toNat := by
    have h0 : fb (fun j z => if j = 10 then kf (W a 2) 0 10 0 else V (A i) j z) := kk.1
    have hq := ef_sqf e0 h0
    exact hq
  have k8 : V (A i) 8 0 = kf (W a 2) 0 8 0 := hf.2.2.2.1
  have k9 : V (A i) 9 0 = kf (W a 2) 0 9 0 := hf.2.2.2.2
  rw [q_bareMany, ← k8, ← k9, ← hq]
  rfl
theorem m_182 {x7 : Int} : ∃ W6 : dV, (∀ b m z, ¬ (b = a ∧ (m = 2 ∨ m = 54)) → W6 b m z = W b m z) ∧ (∀ i, 0 ≤ i → i < 29 → W6 a 54 i = W a 2 i) ∧ (∀ i, 0 ≤ i → i < 29 → W6 a 2 i = W a 5 (29 * 0 + i)) ∧ (∀ z, ¬ (0 ≤ z ∧ z < 29) → W6 a 2 z = W a 2 z) ∧ ∀ r, f_X12_good W6 a x7 = r → dv_lp f_X12_years_182b (W, x7, a, 0) = Sum.inr r := by
  obtain ⟨q, hE, ⟨U, j, rfl, j0, j1, hf, hz⟩, e⟩ := dv_to (b := f_X12_years_182b) (P := fun q => ∃ (U : dV) (j : Int), q = (U, x7, a, j) ∧ 0 ≤ j ∧ j ≤ 29 ∧ (∀ b m z, ¬ (b = a ∧ m = 54) → U b m z = W b m z) ∧ ∀ z, 0 ≤ z → z < j → U a 54 z = W a 2 z) (E := fun q => q.2.2.2 = 29) (m := fun q => (29 - q.2.2.2).toNat) (fun q hq => by
    obtain ⟨U, j, rfl, j0, j1, hf, hz⟩ := hq
    by_cases e : 29 ≤ j
    · exact Or.inl (by dsimp only; omega)
    · rw [f_X12_years_182e]
      unfold f_X12_years_182c
      rw [if_neg e, bq, bq, bq]
      refine Or.inr ⟨_, rfl, ⟨_, j + 1, rfl, by omega, by omega, fun b m z hb => ?_, fun z z0 z1 => ?_⟩, by dsimp only; omega⟩
      · by_cases q : b = a
        · rw [u_j (fun w => hb ⟨q, w⟩)]; exact hf b m z hb
        · rw [u_b q]; exact hf b m z hb
      · rw [u_if]
        by_cases q : z = j
        · subst q
          rw [if_pos rfl]; exact hf a 2 _ (fun q => absurd q.2 (by decide))
        · rw [if_neg q]; exact hz z z0 (by omega)) (W, x7, a, 0) ⟨W, 0, rfl, by decide, by decide, fun _ _ _ _ => rfl, fun z z0 z1 => absurd z1 (by omega)⟩
  have hE : j = 29 := hE
  subst hE
  obtain ⟨W6, e2, f2, l1, l2⟩ := m_takes (W := U) (a := a) (p := 0)
  refine ⟨W6, fun b m z hb => ?_, fun i i0 i1 => ?_, fun i i0 i1 => ?_, fun z hz' => ?_, fun r hr => ?_⟩
  · rw [f2 b m z (fun q => hb ⟨q.1, Or.inl q.2⟩)]
    exact hf b m z (fun q => hb ⟨q.1, Or.inr q.2⟩)
  · rw [f2 a 54 i (fun q => absurd q.2 (by decide))]
    exact hz i i0 i1
  · rw [l1 i i0 i1]
    exact hf a 5 _ (fun q => absurd q.2 (by decide))
  · rw [l2 z hz']
    exact hf a 2 _ (fun q => absurd q.2 (by decide))
  · rw [e]
    refine dv_lp_e ?_
    obtain ⟨r1, r2⟩ := r
    rw [f_X12_years_182e]
    unfold f_X12_years_182c
    rw [if_pos (by decide), dv_bn2 e2, dv_bn2 hr]
/-- all the drawn years -/
theorem years_loop {t : Int} : ∀ (n : Nat) (q p : Int) (V W : dV), (n : Int) = t - q → JX A a 7 V W → W a 56 0 = p → 0 ≤ p ∧ p ≤ 1000002 → 1 ≤ V (A 7) 7 0 → ∃ (V' W' : dV), JX A a 7 V' W' ∧ YF A a V W V' W' ∧ (∀ r, f_X11_answer V' (A 0) (bar (V' (A 7))) = r → dv_lp f_X11_years_67b (V, A 0, t, p, q) = r) ∧ ∀ r, dv_lp f_X12_years_182b (W', bar (V' (A 7)), a, 0) = Sum.inr r → dv_lp f_X12_years_60b (W, a, t, q) = r := by
  intro n
  have E : ∀ (q p : Int) (V W : dV), JX A a 7 V W → (t ≤ q ∨ 999 ≤ V (A 7) 5 0) → ∃ (V' W' : dV), JX A a 7 V' W' ∧ YF A a V W V' W' ∧ (∀ r, f_X11_answer V' (A 0) (bar (V' (A 7))) = r → dv_lp f_X11_years_67b (V, A 0, t, p, q) = r) ∧ ∀ r, dv_lp f_X12_years_182b (W', bar (V' (A 7)), a, 0) = Sum.inr r → dv_lp f_X12_years_60b (W, a, t, q) = r := by
    intro q p V W h hq
    obtain ⟨b1, b2⟩ := y_bare h
    have g3 : V (A 0) 3 0 = A 7 := h.2.1.1.2.2.2.1
    have e50 := (ef9_n h.2.2.2.2.1.1).2.2.2.1
    refine ⟨V, W, h, YF_r, fun r hr => dv_lp_e ?_, fun r hr => dv_lp_e ?_⟩
    · obtain ⟨r1, r2⟩ := r
      rw [f_X11_years_67e]
      unfold f_X11_years_67c f_X11_years_100
      by_cases e : t ≤ q
      · rw [if_pos e, bq, g3, dv_bn2 b1, dv_bn2 hr]
      · rw [if_neg e, bq, g3, bq, if_pos (by omega), bq, dv_bn2 b1, dv_bn2 hr]
    · rw [f_X12_years_60e]
      unfold f_X12_years_60c f_X12_years_174
      by_cases e : t ≤ q
      · rw [if_pos e, dv_bn2 b2]; exact hr
      · rw [if_neg e, bq, if_pos (by omega), dv_bn2 b2]; exact hr
  induction n with
  | zero =>
    intro q p V W hn h _ _ _
    exact E q p V W h (Or.inl (by omega))
  | succ n ih =>
    intro q p V W hn h hp pb h7
    by_cases hy : 999 ≤ V (A 7) 5 0
    · exact E q p V W h (Or.inr hy)
    · obtain ⟨V1, W1, e1, e2, e3, h1, Y1⟩ := one_year (t := t) (q := q) h hp pb h7 (by omega) (by omega)
      have q7 : V1 (A 7) 7 0 = V (A 7) 7 0 := Y1.1 _ _ _ (fun w => absurd w.2 (by decide)) (fun w => inj_n h.1 (by decide) (by decide) (by decide) w.1)
      obtain ⟨V2, W2, h2, Y2, z1, z2⟩ := ih (q + 1) (nx (nx (nx (nx p)))) V1 W1 (by omega) h1 e3 nx_b (by rw [q7]; exact h7)
      refine ⟨V2, W2, h2, YF_t Y1 Y2, fun r hr => ?_, fun r hr => ?_⟩
      · rw [dv_lp_s (t := (V1, A 0, t, nx (nx (nx (nx p))), q + 1))]
        · exact z1 r hr
        · rw [f_X11_years_67e]
          unfold f_X11_years_67c
          rw [if_neg (by omega), bq, h.2.1.1.2.2.2.1, bq, if_neg hy, dv_bn2 e1, bq]
      · rw [dv_lp_s e2]
        exact z2 r hr
theorem L_years {p t : Int} (h : RR A a V W) : ∃ V' W' u, f_X11_years V (A 0) p t = (V', u) ∧ f_X12_years W a p t = (W', u) ∧ RR A a V' W' := by
  have hA := h.1
  obtain ⟨g0, g1, -⟩ := RR_G h
  have g3 : V (A 0) 3 0 = A 7 := h.2.1.1.2.2.2.1
  obtain ⟨kk, e7, e8, e9, e10, e50, e51, e52, ec⟩ := RR_n h
  have n9 := kk.1.1
  by_cases hpt : (0 ≤ p ∧ p ≤ 1000000) ∧ 1 ≤ t ∧ t ≤ 60
  case neg =>
    obtain ⟨V2, W2, r1, r2, r3⟩ := RR_bad (k := -1) h (Or.inl ⟨rfl, rfl, rfl⟩)
    refine ⟨V2, W2, -1, ?_, ?_, r3⟩
    · unfold f_X11_years f_X11_years_22
      by_cases q1 : p < 0
      · rw [if_pos q1, dv_bn2 r1]
      · by_cases q2 : 1000000 < p
        · rw [if_neg q1, if_pos q2, dv_bn2 r1]
        · by_cases q3 : t < 1
          · rw [if_neg q1, if_neg q2, if_pos q3, dv_bn2 r1]
          · rw [if_neg q1, if_neg q2, if_neg q3, if_neg (by omega), dv_bn2 r1]
    · unfold f_X12_years f_X12_years_20
      rw [bq2, q_lies]
      dsimp only
      by_cases q1 : 0 ≤ p ∧ p ≤ 1000000
      · rw [if_pos q1, if_neg (by decide), bq2, q_lies]
        dsimp only
        rw [if_neg (fun w => hpt ⟨q1, w⟩), if_neg (fun w => w rfl), dv_bn2 r2]
      · rw [if_neg q1, if_pos rfl, dv_bn2 r2]
  case pos =>
    obtain ⟨hp, ht⟩ := hpt
    have lp : f_X12_lies W p 0 1000000 = (1, ()) := by rw [q_lies, if_pos hp]
    have lt : f_X12_lies W t 1 60 = (1, ()) := by rw [q_lies, if_pos ht]
    by_cases hn : V (A 4) 7 0 = 0
    · obtain ⟨V2, W2, r1, r2, r3⟩ := RR_bad (k := -3) h (Or.inr (Or.inr (Or.inl ⟨rfl, rfl, rfl⟩)))
      refine ⟨V2, W2, -3, ?_, ?_, r3⟩
      · unfold f_X11_years
        rw [if_neg (by omega), if_neg (by omega), if_neg (by omega), if_pos ht.2, bq, g0, bq, g1, bq, if_neg (fun w => w hn), dv_bn2 r1]
      · unfold f_X12_years
        rw [dv_bn2 lp, if_neg (by decide), dv_bn2 lt, if_pos (by decide), dv_bn2 q_many, if_neg (fun w => w (by omega)), dv_bn2 r2]
    · obtain ⟨V1, c1, c2, c3⟩ := c_copy (V := V) (d := A 7) (s := A 4) (inj_n hA (by decide) (by decide) (by decide))
      have c3 : fe (V (A 4)) (V1 (A 7)) := c3
      obtain ⟨W1, m1, m2, m3, -⟩ := m_aside (W := dv_u (dv_u W a 56 0 p) a 55 0 (W a 2 69)) (a := a) (p := 0)
      have w1 : ∀ m z, m ≠ 5 → m ≠ 55 → m ≠ 56 → W1 a m z = W a m z := fun m z h5 h55 h56 => by
        rw [m2 a m z (fun q => h5 q.2), u_j h55, u_j h56]
      have w12 : ∀ z, W1 a 2 z = W a 2 z := fun z => w1 2 z (by decide) (by decide) (by decide)
      have F1 : cf A (fun i m => i == 7) V V1 := fun i m z hi hm hL => c2 _ m z (fun q => by
        have := hA.1 i 7 hi (by decide) q.1
        subst this
        cases hL)
      have h1 : JX A a 7 V1 W1 := by
        obtain ⟨-, hG, ⟨⟨hf, -⟩, -, hl⟩, -, -, -, -, -, -, hr⟩ := id h
        have h27 := kk.2.2.2.2.2.1
        refine ⟨hA, G_c hG (cf_ag F1 rfl), laR_c (by decide) hl (cf_ag F1 rfl) (fun z _ => w12 _), rdR_c hr (fun z => F1 10 1 z (by decide) (by decide) rfl) (fun z _ => F1 14 1 z (by decide) (by decide) rfl) (fun z => w1 7 z (by decide) (by decide) (by decide)) (fun z => w1 17 z (by decide) (by decide) (by decide)), ⟨?_, fe_kg c3 kk⟩, Or.inr rfl, by rw [w12]; omega⟩
        rw [show W1 a 2 = W a 2 from funext w12]
        exact ef_9 (fe_ef c3 hf)
      have q7 : V1 (A 7) 7 0 = V (A 4) 7 0 := c3.2.2.1
      obtain ⟨V2, W2, h2, Y2, z1, z2⟩ := years_loop (t := t) t.toNat 0 p V1 W1 (by omega) h1 (by rw [m2 a 56 0 (fun q => absurd q.2 (by decide)), u_j (by decide), u_e]) (by omega) (by rw [q7]; omega)
      obtain ⟨W3, y1, y2, y3, y4, y5⟩ := m_182 (W := W2) (a := a) (x7 := bar (V2 (A 7)))
      -- the relation again
      have FF : cf A (fun i m => i == 7 || (i == 14 && m ≤ 3)) V V2 := cf_t (cf_m F1 (fun i m hL => by simp only [Bool.or_eq_false_iff] at hL; exact hL.1)) (fun i m z hi hm hL => Y2.1 _ m z (fun q => by
        have := hA.1 i 7 hi (by decide) q.1
        subst this
        simp at hL) (fun q => by
        have := hA.1 i 14 hi (by decide) q.1
        subst this
        simp at hL; omega))
      have GG : ∀ m z, m ≠ 2 → m ≠ 5 → ¬ (22 ≤ m ∧ m ≤ 26) → ¬ (29 ≤ m ∧ m ≤ 30) → ¬ (54 ≤ m ∧ m ≤ 56) → W3 a m z = W a m z := fun m z n2 n5 n22 n29 n54 => by
        rw [y1 a m z (fun q => by have := q.2; omega), Y2.2.2.2.1 a m z (fun q => by have := q.2; omega), w1 m z (by omega) (by omega) (by omega)]
      have K2 : ∀ z, 0 ≤ z → W3 a 2 z = W a 2 z := fun z z0 => by
        by_cases q : z < 29
        · rw [y3 z z0 q, Y2.2.2.2.1 a 5 _ (fun q => absurd q.2 (by decide)), m3 z z0 q, u_j (by decide), u_j (by decide)]
        · rw [y4 z (by omega), Y2.2.2.2.2 z (by omega), w12]
      have R : RR A a V2 W3 := by
        obtain ⟨-, hG, hs, hi, htp, hps, -, hmi, hta, hrd⟩ := id h
        obtain ⟨e7', -, -, -, -, -, ec'⟩ := ef9_n h2.2.2.2.2.1.1
        have v7 : V2 (A 7) 7 0 = V (A 4) 7 0 := by
          rw [Y2.1 _ _ _ (fun w => absurd w.2 (by decide)) (fun w => inj_n hA (by decide) (by decide) (by decide) w.1), q7]
        have g : ∀ m z, m ≠ 2 → m ≠ 5 → ¬ (22 ≤ m ∧ m ≤ 26) → ¬ (29 ≤ m ∧ m ≤ 30) → ¬ (54 ≤ m ∧ m ≤ 56) → W3 a m z = W a m z := GG
        refine ⟨hA, G_c hG (cf_ag FF rfl), stR_c (by decide) hs (cf_ag FF rfl) (fun z hz => by rw [Int.zero_add]; exact K2 z hz.1), imR_c hi (cf_ag FF rfl) (fun z => g 3 z (by decide) (by decide) (by decide) (by decide) (by decide)) (fun z => g 4 z (by decide) (by decide) (by decide) (by decide) (by decide)), tpR_c htp (cf_ag FF rfl) (fun z => g 11 z (by decide) (by decide) (by decide) (by decide) (by decide)) (g 13 0 (by decide) (by decide) (by decide) (by decide) (by decide)), psR_c hps (cf_ag FF rfl) (fun z => g 31 z (by decide) (by decide) (by decide) (by decide) (by decide)) (g 33 0 (by decide) (by decide) (by decide) (by decide) (by decide)), ⟨?_, by rw [v7]; omega, fun c c0 c9 => ?_⟩, miR_c hmi (cf_ag FF rfl) (g 0 0 (by decide) (by decide) (by decide) (by decide) (by decide)) (fun z => g 1 z (by decide) (by decide) (by decide) (by decide) (by decide)), taR_c hta (cf_ag FF rfl) (g 14 0 (by decide) (by decide) (by decide) (by decide) (by decide)) (g 6 0 (by decide) (by decide) (by decide) (by decide) (by decide)) (g 47 0 (by decide) (by decide) (by decide) (by decide) (by decide)), rdR_c hrd (fun z => FF 10 1 z (by decide) (by decide) rfl) (fun z z8 => ?_) (fun z => g 7 z (by decide) (by decide) (by decide) (by decide) (by decide)) (fun z => g 17 z (by decide) (by decide) (by decide) (by decide) (by decide))⟩
        · left
          rw [v7, e7, y1 a 55 0 (fun q => absurd q.2 (by decide)), Y2.2.2.2.1 a 55 0 (fun q => absurd q.2 (by decide)), m2 a 55 0 (fun q => absurd q.2 (by decide)), u_e]
        · obtain ⟨-, -, r2, r3, r4⟩ := ec' c c0 c9
          rw [y2 c c0 (by omega), y2 (9 + c) (by omega) (by omega), y2 (18 + c) (by omega) (by omega)]
          exact ⟨r2, r3, r4⟩
        · rw [Y2.2.2.1 z z8]
          exact F1 14 1 z (by decide) (by decide) rfl
      obtain ⟨V4, W4, r1, r2, r3⟩ := RR_good (t := bar (V2 (A 7))) R (bar_b h2.2.2.2.2.1.2).1
      refine ⟨V4, W4, bar (V2 (A 7)), ?_, ?_, r3⟩
      · unfold f_X11_years
        rw [if_neg (by omega), if_neg (by omega), if_neg (by omega), if_pos ht.2, bq, g0, bq, g1, bq, if_pos hn, bq, g3, bq, bq, g1, dv_bn2 c1]
        exact z1 _ r1
      · unfold f_X12_years
        rw [dv_bn2 lp, if_neg (by decide), dv_bn2 lt, if_pos (by decide), dv_bn2 q_many, if_pos (by omega), bq, dv_bn2 q_many, u_j (show (2 : Nat) ≠ 56 by decide), bq, dv_bn2 m1]
        exact z2 _ (y5 _ r2)
end QTN
section QTO
variable {V V' V0 V1 V2 U U1 W W' W0 W1 W2 : dV} {a b z x y u o r n c : Int} {A : Nat → Int} {K : Int → Int} {d s i : Nat}
/-- rows have nothing ahead of their first place -/
def NG (V : dV) : Prop := ∀ b m z, z < 0 → V b m z = 0
/-- two texts tell the same -/
def tq (V : dV) (x : Int) (V' : dV) (x' : Int) : Prop := (∀ z, z < V x 2 0 → V' x' 0 z = V x 0 z) ∧ (∀ z, 0 ≤ z → z < V x 3 0 * 8 → V' x' 1 z = V x 1 z) ∧ V' x' 2 0 = V x 2 0 ∧ V' x' 3 0 = V x 3 0
theorem c_text {e f : Int} (h : e ≠ f) (ng : ∀ z, z < 0 → V e 0 z = V f 0 z) : ∃ V', f_X10_copyFrom V e f = (V', 0) ∧ (∀ b m z, ¬ (b = e ∧ m ≤ 3) → V' b m z = V b m z) ∧ tq V f V' e ∧ ∀ z, z < 0 → V' e 0 z = V e 0 z := by
  have h' := Ne.symm h
  unfold f_X10_copyFrom
  rw [bq, bq, bq, bq, bq, bq, bq, bq, bq]
  have k2 : dv_c V f 0 0 e 0 0 (V f 2 0) f 3 0 = V f 3 0 := cp_b h'
  refine ⟨_, rfl, fun b m z hb => ?_, ⟨fun z hz => ?_, fun z z0 z1 => ?_, ?_, ?_⟩, fun z hz => ?_⟩
  · by_cases q : b = e
    · have hm : m ≠ 3 ∧ m ≠ 2 ∧ m ≠ 1 ∧ m ≠ 0 := by
        by_cases w : m ≤ 3
        · exact absurd ⟨q, w⟩ hb
        · omega
      rw [u_j hm.1, u_j hm.2.1, cp_j hm.2.2.1, cp_j hm.2.2.2]
    · rw [u_b q, u_b q, cp_b q, cp_b q]
  · rw [u_j (by decide), u_j (by decide), cp_j (by decide)]
    by_cases q : 0 ≤ z
    · rw [cp_in (by omega), show (0 : Int) + (z - 0) = z by omega]
    · rw [cp_out (by omega)]
      exact ng z (by omega)
  · rw [u_j (by decide), u_j (by decide), k2, cp_in (by omega), cp_b h', show (0 : Int) + (z - 0) = z by omega]
  · rw [u_j (by decide), u_e, cp_b h', cp_b h']
  · rw [u_e, u_b h', cp_b h', cp_b h']
  · rw [u_j (by decide), u_j (by decide), cp_j (by decide), cp_out (by omega)]
theorem tq_txR {f e : Int} {t : Int} (h : txR f V K b t) (q : tq V f V' e) : txR e V' K b t := txR_k h q.1 q.2.1 q.2.2.1 q.2.2.2 rfl (fun _ _ _ => ⟨rfl, rfl⟩)
/-- what copying a stand changes -/
def sd_fr (A : Nat → Int) (d : Nat) (V V' : dV) : Prop := ∀ b m z, ¬ (b = A (1 + d) ∧ 2 ≤ m ∧ m ≤ 7) → ¬ (b = A (4 + d) ∧ m ≤ 10 ∧ m ≠ 6) → (∀ t : Nat, t < 6 → ¬ (b = A (20 + 6 * d + t) ∧ m ≤ 3)) → V' b m z = V b m z
/-- a stand is copied -/
theorem c_stand (hA : inj A) (hG : G A V) (ng : NG V) (hd : d < 3) (hs : s < 3) (ds : d ≠ s) (hst : stR A s V K b) : ∃ V', f_X8_copyFrom V (A (1 + d)) (A (1 + s)) = (V', 0) ∧ sd_fr A d V V' ∧ stR A d V' K b := by
  obtain ⟨⟨hf, hk⟩, ⟨s1, s2, s3⟩, ⟨l1, l2, l3, l4, l5⟩⟩ := hst
  obtain ⟨gd0, gd1⟩ := hG.2.2.2 d hd
  obtain ⟨gs0, gs1⟩ := hG.2.2.2 s hs
  obtain ⟨V1, e1, f1, c1⟩ := c_copy (V := V) (d := A (4 + d)) (s := A (4 + s)) (inj_n hA (by omega) (by omega) (by omega))
  have c1 : fe (V (A (4 + s))) (V1 (A (4 + d))) := c1
  have L : ∃ V2 : dV, (∀ b m z, (∀ t : Nat, t < 6 → ¬ (b = A (20 + 6 * d + t) ∧ m ≤ 3)) → V2 b m z = V1 b m z) ∧ (∀ t : Nat, (t : Int) < V (A (1 + s)) 5 0 → tq V (A (20 + 6 * s + t)) V2 (A (20 + 6 * d + t))) ∧ dv_lp f_X8_copyFrom_13b (V1, A (1 + d), A (1 + s), 0) = dv_lp f_X8_copyFrom_13b (V2, A (1 + d), A (1 + s), V (A (1 + s)) 5 0) := by
    obtain ⟨q, hE, ⟨U, j, rfl, j0, hU, hn, ht⟩, e⟩ := dv_to (b := f_X8_copyFrom_13b) (P := fun q => ∃ (U : dV) (j : Nat), q = (U, A (1 + d), A (1 + s), (j : Int)) ∧ (j : Int) ≤ V (A (1 + s)) 5 0 ∧ (∀ b m z, (∀ t : Nat, t < 6 → ¬ (b = A (20 + 6 * d + t) ∧ m ≤ 3)) → U b m z = V1 b m z) ∧ (∀ t : Nat, t < 6 → ∀ z, z < 0 → U (A (20 + 6 * d + t)) 0 z = 0) ∧ ∀ t : Nat, t < j → tq V (A (20 + 6 * s + t)) U (A (20 + 6 * d + t))) (E := fun q => q.2.2.2 = V (A (1 + s)) 5 0) (m := fun q => (V (A (1 + s)) 5 0 - q.2.2.2).toNat) (fun q hq => by
      obtain ⟨U, j, rfl, j0, hU, hn, ht⟩ := hq
      by_cases e : V (A (1 + s)) 5 0 ≤ (j : Int)
      · exact Or.inl (by dsimp only; omega)
      · have j6 : j < 6 := by omega
        have us : ∀ (q m : Nat) (z : Int), q < 38 → ¬ (20 + 6 * d ≤ q ∧ q < 26 + 6 * d) → U (A q) m z = V1 (A q) m z := fun q m z hq hn => hU _ m z (fun t ht w => by
          have := hA.1 q (20 + 6 * d + t) hq (by omega) w.1
          omega)
        have v1 : ∀ (q m : Nat) (z : Int), q < 38 → q ≠ 4 + d → V1 (A q) m z = V (A q) m z := fun q m z hq hn => f1 _ m z (fun w => inj_n hA hq (by omega) hn w.1)
        have usd : ∀ m z, U (A (1 + d)) m z = V (A (1 + d)) m z := fun m z => by rw [us (1 + d) m z (by omega) (by omega), v1 (1 + d) m z (by omega) (by omega)]
        have uss : ∀ m z, U (A (1 + s)) m z = V (A (1 + s)) m z := fun m z => by rw [us (1 + s) m z (by omega) (by omega), v1 (1 + s) m z (by omega) (by omega)]
        have uts : ∀ (t : Nat) (m : Nat) (z : Int), t < 6 → U (A (20 + 6 * s + t)) m z = V (A (20 + 6 * s + t)) m z := fun t m z ht => by rw [us _ m z (by omega) (by omega), v1 _ m z (by omega) (by omega)]
        obtain ⟨U2, e2, f2, c2, n2⟩ := c_text (V := U) (e := A (20 + 6 * d + j)) (f := A (20 + 6 * s + j)) (inj_n hA (by omega) (by omega) (by omega)) (fun z hz => by rw [hn j j6 z hz, uts j 0 z j6, ng _ _ z hz])
        rw [f_X8_copyFrom_13e]
        unfold f_X8_copyFrom_13c
        rw [bq, uss, if_neg e, bq, usd, gd1 j j6, bq, uss, gs1 j j6, dv_bn2 e2, bq]
        refine Or.inr ⟨_, rfl, ⟨U2, j + 1, rfl, by omega, fun b m z hb => ?_, fun t ht z hz => ?_, fun t ht' => ?_⟩, by dsimp only; omega⟩
        · rw [f2 b m z (fun w => hb j j6 w)]
          exact hU b m z hb
        · by_cases q : t = j
          · subst q
            rw [n2 z hz]
            exact hn t (by omega) z hz
          · rw [f2 _ 0 z (fun w => inj_n hA (by omega) (by omega) (by omega) w.1)]
            exact hn t ht z hz
        · by_cases q : t = j
          · subst q
            have E0 : ∀ m z, U (A (20 + 6 * s + t)) m z = V (A (20 + 6 * s + t)) m z := fun m z => uts t m z (by omega)
            unfold tq at c2
            simp only [E0] at c2
            exact c2
          · have := ht t (by omega)
            have E1 : ∀ m z, U2 (A (20 + 6 * d + t)) m z = U (A (20 + 6 * d + t)) m z := fun m z => f2 _ m z (fun w => inj_n hA (by omega) (by omega) (by omega) w.1)
            unfold tq
            simp only [E1]
            exact this) (V1, A (1 + d), A (1 + s), 0) ⟨V1, 0, rfl, by omega, fun _ _ _ _ => rfl, fun t ht z hz => by
        rw [f1 _ 0 z (fun w => inj_n hA (by omega) (by omega) (by omega) w.1)]
        exact ng _ _ z hz, fun t ht => absurd ht (by omega)⟩
    have hE : (j : Int) = V (A (1 + s)) 5 0 := hE
    rw [hE] at e
    exact ⟨U, hU, fun t ht' => ht t (by omega), e⟩
  obtain ⟨V2, f2, c2, e2⟩ := L
  have us : ∀ (q m : Nat) (z : Int), q < 38 → ¬ (20 + 6 * d ≤ q ∧ q < 26 + 6 * d) → V2 (A q) m z = V1 (A q) m z := fun q m z hq hn => f2 _ m z (fun t ht w => by
    have := hA.1 q (20 + 6 * d + t) hq (by omega) w.1
    omega)
  have v1 : ∀ (q m : Nat) (z : Int), q < 38 → q ≠ 4 + d → V1 (A q) m z = V (A q) m z := fun q m z hq hn => f1 _ m z (fun w => inj_n hA hq (by omega) hn w.1)
  have uss : ∀ m z, V2 (A (1 + s)) m z = V (A (1 + s)) m z := fun m z => by rw [us (1 + s) m z (by omega) (by omega), v1 (1 + s) m z (by omega) (by omega)]
  have n1 : A (1 + s) ≠ A (1 + d) := inj_n hA (by omega) (by omega) (by omega)
  -- the end of it
  have K3 : ∃ V3 : dV, f_X8_copyFrom_13b (V2, A (1 + d), A (1 + s), V (A (1 + s)) 5 0) = Sum.inr (V3, 0) ∧ (∀ b m z, ¬ (b = A (1 + d) ∧ 2 ≤ m ∧ m ≤ 7) → V3 b m z = V2 b m z) ∧ (∀ z, 0 ≤ z → z < 6 → V3 (A (1 + d)) 2 z = V (A (1 + s)) 2 z ∧ V3 (A (1 + d)) 3 z = V (A (1 + s)) 3 z ∧ V3 (A (1 + d)) 4 z = V (A (1 + s)) 4 z) ∧ V3 (A (1 + d)) 5 0 = V (A (1 + s)) 5 0 ∧ V3 (A (1 + d)) 6 0 = V (A (1 + s)) 6 0 ∧ V3 (A (1 + d)) 7 0 = V (A (1 + s)) 7 0 := by
    rw [f_X8_copyFrom_13e]
    unfold f_X8_copyFrom_13c
    rw [bq, uss, if_pos (Int.le_refl _), bq, bq, bq, bq, bq, bq, bq, bq, bq]
    refine ⟨_, rfl, fun b m z hb => ?_, fun z z0 z6 => ⟨?_, ?_, ?_⟩, ?_, ?_, ?_⟩
    · by_cases q : b = A (1 + d)
      · have hm : m ≠ 7 ∧ m ≠ 6 ∧ m ≠ 5 ∧ m ≠ 4 ∧ m ≠ 3 ∧ m ≠ 2 := by
          by_cases w : 2 ≤ m ∧ m ≤ 7
          · exact absurd ⟨q, w⟩ hb
          · omega
        obtain ⟨m7, m6, m5, m4, m3, m2⟩ := hm
        rw [u_j m7, u_j m6, u_j m5, cp_j m4, cp_j m3, cp_j m2]
      · rw [u_b q, u_b q, u_b q, cp_b q, cp_b q, cp_b q]
    · rw [u_j (by decide), u_j (by decide), u_j (by decide), cp_j (by decide), cp_j (by decide), cp_in (by omega), uss, show (0 : Int) + (z - 0) = z by omega]
    · rw [u_j (by decide), u_j (by decide), u_j (by decide), cp_j (by decide), cp_in (by omega), cp_b n1, uss, show (0 : Int) + (z - 0) = z by omega]
    · rw [u_j (by decide), u_j (by decide), u_j (by decide), cp_in (by omega), cp_b n1, cp_b n1, uss, show (0 : Int) + (z - 0) = z by omega]
    · rw [u_j (by decide), u_j (by decide), u_e, cp_b n1, cp_b n1, cp_b n1, uss]
    · rw [u_j (by decide), u_e, u_b n1, cp_b n1, cp_b n1, cp_b n1, uss]
    · rw [u_e, u_b n1, u_b n1, cp_b n1, cp_b n1, cp_b n1, uss]
  obtain ⟨V3, e3, f3, r1, r5, r6, r7⟩ := K3
  refine ⟨V3, ?_, fun b m z h1 h2 h3 => ?_, ⟨⟨?_, ?_⟩, ⟨by rw [r7]; exact s1, by rw [r7]; exact s2, fun z z0 z1 => ?_⟩, ⟨by rw [r5]; exact l1, by rw [r5]; exact l2, by rw [r6]; exact l3, by rw [r5, r6]; exact l4, fun t ht => ?_⟩⟩⟩
  · unfold f_X8_copyFrom
    rw [bq, gd0, bq, gs0, dv_bn2 e1, e2]
    exact dv_lp_e e3
  · rw [f3 b m z h1, f2 b m z h3, f1 b m z h2]
  · have q : V3 (A (4 + d)) = V1 (A (4 + d)) := funext fun m => funext fun z => by
      rw [f3 _ m z (fun w => inj_n hA (by omega) (by omega) (by omega) w.1), us (4 + d) m z (by omega) (by omega)]
    rw [q]
    exact fe_ef c1 hf
  · have q : V3 (A (4 + d)) = V1 (A (4 + d)) := funext fun m => funext fun z => by
      rw [f3 _ m z (fun w => inj_n hA (by omega) (by omega) (by omega) w.1), us (4 + d) m z (by omega) (by omega)]
    rw [q]
    exact fe_kg c1 hk
  · rw [r7] at z1
    obtain ⟨q2, q3, q4⟩ := r1 z z0 (by omega)
    rw [q2, q3, q4]
    exact s3 z z0 z1
  · rw [r5] at ht
    have q : ∀ m z, V3 (A (20 + 6 * d + t)) m z = V2 (A (20 + 6 * d + t)) m z := fun m z => f3 _ m z (fun w => inj_n hA (by omega) (by omega) (by omega) w.1)
    have k := tq_txR (l5 t ht) (c2 t ht)
    unfold txR at k ⊢
    rw [show V3 (A (20 + 6 * d + t)) 0 = V2 (A (20 + 6 * d + t)) 0 from funext (q 0), show V3 (A (20 + 6 * d + t)) 1 = V2 (A (20 + 6 * d + t)) 1 from funext (q 1), q, q]
    exact k
end QTO
section QTP
variable {V V' V0 V1 V2 V3 U U1 W W' W0 W1 W2 W5 : dV} {a b z x y u o r n c p : Int} {A : Nat → Int} {K : Int → Int} {d s i k : Nat}
theorem m_img : ∃ W5 : dV, (∀ b m z, ¬ (b = a ∧ m = 3) → W5 b m z = W b m z) ∧ (∀ z, 0 ≤ z → z < 5680 → W5 a 3 (5680 * p + z) = W a 2 z) ∧ (∀ z, ¬ (5680 * p ≤ z ∧ z < 5680 * p + 5680) → W5 a 3 z = W a 3 z) ∧ ∀ r, f_X12_good (dv_u W5 a 4 p 1) a 0 = r → dv_lp f_X12_image_17b (W, a, p, 0) = r := by
  obtain ⟨q, hE, ⟨U, j, rfl, j0, j1, hf, hz, hn⟩, e⟩ := dv_to (b := f_X12_image_17b) (P := fun q => ∃ (U : dV) (j : Int), q = (U, a, p, j) ∧ 0 ≤ j ∧ j ≤ 5680 ∧ (∀ b m z, ¬ (b = a ∧ m = 3) → U b m z = W b m z) ∧ (∀ z, 0 ≤ z → z < j → U a 3 (5680 * p + z) = W a 2 z) ∧ ∀ z, ¬ (5680 * p ≤ z ∧ z < 5680 * p + 5680) → U a 3 z = W a 3 z) (E := fun q => q.2.2.2 = 5680) (m := fun q => (5680 - q.2.2.2).toNat) (fun q hq => by
    obtain ⟨U, j, rfl, j0, j1, hf, hz, hn⟩ := hq
    by_cases e : 5680 ≤ j
    · exact Or.inl (by dsimp only; omega)
    · rw [f_X12_image_17e]
      unfold f_X12_image_17c
      rw [if_neg e, bq, bq, bq, bq, bq]
      refine Or.inr ⟨_, rfl, ⟨_, j + 1, rfl, by omega, by omega, fun b m z hb => ?_, fun z z0 z1 => ?_, fun z hz' => ?_⟩, by dsimp only; omega⟩
      · by_cases q : b = a
        · rw [u_j (fun w => hb ⟨q, w⟩)]; exact hf b m z hb
        · rw [u_b q]; exact hf b m z hb
      · rw [u_if]
        by_cases q : z = j
        · subst q
          rw [if_pos rfl]; exact hf a 2 _ (fun q => absurd q.2 (by decide))
        · rw [if_neg (by omega)]; exact hz z z0 (by omega)
      · rw [u_i (by omega)]; exact hn z hz') (W, a, p, 0) ⟨W, 0, rfl, by decide, by decide, fun _ _ _ _ => rfl, fun z z0 z1 => absurd z1 (by omega), fun _ _ => rfl⟩
  have hE : j = 5680 := hE
  subst hE
  refine ⟨U, hf, hz, hn, fun r hr => ?_⟩
  rw [e]
  refine dv_lp_e ?_
  obtain ⟨r1, r2⟩ := r
  rw [f_X12_image_17e]
  unfold f_X12_image_17c
  rw [if_pos (by decide), bq, dv_bn2 hr]
theorem m_bck : ∃ W5 : dV, (∀ b m z, ¬ (b = a ∧ m = 2) → W5 b m z = W b m z) ∧ (∀ z, 0 ≤ z → z < 5680 → W5 a 2 z = W a 3 (5680 * p + z)) ∧ ∀ r, f_X12_good (dv_u W5 a 33 0 0) a 0 = r → dv_lp f_X12_back_33b (W, a, p, 0) = r := by
  obtain ⟨q, hE, ⟨U, j, rfl, j0, j1, hf, hz⟩, e⟩ := dv_to (b := f_X12_back_33b) (P := fun q => ∃ (U : dV) (j : Int), q = (U, a, p, j) ∧ 0 ≤ j ∧ j ≤ 5680 ∧ (∀ b m z, ¬ (b = a ∧ m = 2) → U b m z = W b m z) ∧ ∀ z, 0 ≤ z → z < j → U a 2 z = W a 3 (5680 * p + z)) (E := fun q => q.2.2.2 = 5680) (m := fun q => (5680 - q.2.2.2).toNat) (fun q hq => by
    obtain ⟨U, j, rfl, j0, j1, hf, hz⟩ := hq
    by_cases e : 5680 ≤ j
    · exact Or.inl (by dsimp only; omega)
    · rw [f_X12_back_33e]
      unfold f_X12_back_33c
      rw [if_neg e, bq, bq, bq, bq, bq]
      refine Or.inr ⟨_, rfl, ⟨_, j + 1, rfl, by omega, by omega, fun b m z hb => ?_, fun z z0 z1 => ?_⟩, by dsimp only; omega⟩
      · by_cases q : b = a
        · rw [u_j (fun w => hb ⟨q, w⟩)]; exact hf b m z hb
        · rw [u_b q]; exact hf b m z hb
      · rw [u_if]
        by_cases q : z = j
        · subst q
          rw [if_pos rfl]; exact hf a 3 _ (fun q => absurd q.2 (by decide))
        · rw [if_neg q]; exact hz z z0 (by omega)) (W, a, p, 0) ⟨W, 0, rfl, by decide, by decide, fun _ _ _ _ => rfl, fun z z0 z1 => absurd z1 (by omega)⟩
  have hE : j = 5680 := hE
  subst hE
  refine ⟨U, hf, hz, fun r hr => ?_⟩
  rw [e]
  refine dv_lp_e ?_
  obtain ⟨r1, r2⟩ := r
  rw [f_X12_back_33e]
  unfold f_X12_back_33c f_X12_settled
  rw [if_pos (by decide), bq, dv_bn2 hr, bq2]
def im_L (k i m : Nat) : Bool := (i == 0 && m == 2) || (i == 2 + k && (2 ≤ m && m ≤ 7)) || (i == 5 + k && m ≤ 10) || (26 + 6 * k ≤ i && i < 32 + 6 * k)
theorem sd_cf (hA : inj A) (f : sd_fr A d V V') (hd : d < 3) : cf A (fun i m => (i == 1 + d && (2 ≤ m && m ≤ 7)) || (i == 4 + d && m ≤ 10) || (20 + 6 * d ≤ i && i < 26 + 6 * d)) V V' := fun i m z hi hm hL => by
  simp only [Bool.or_eq_false_iff, Bool.and_eq_false_iff, beq_eq_false_iff_ne, decide_eq_false_iff_not, ne_eq] at hL
  refine f _ m z (fun w => ?_) (fun w => ?_) (fun t ht w => ?_)
  · have := hA.1 i (1 + d) hi (by omega) w.1
    omega
  · have := hA.1 i (4 + d) hi (by omega) w.1
    omega
  · have := hA.1 i (20 + 6 * d + t) hi (by omega) w.1
    omega
theorem L_image (h : RR A a V W) (ng : NG V) : ∃ V' W' u, f_X11_image V (A 0) p = (V', u) ∧ f_X12_image W a p = (W', u) ∧ RR A a V' W' := by
  have hA := h.1
  obtain ⟨g0, g1, -⟩ := RR_G h
  by_cases hp : 0 ≤ p ∧ p ≤ 1
  case neg =>
    obtain ⟨V2, W2, r1, r2, r3⟩ := RR_bad (k := -1) h (Or.inl ⟨rfl, rfl, rfl⟩)
    refine ⟨V2, W2, -1, ?_, ?_, r3⟩
    · unfold f_X11_image f_X11_image_9
      by_cases q : p < 0
      · rw [if_pos q, dv_bn2 r1]
      · rw [if_neg q, if_neg (by omega), dv_bn2 r1]
    · unfold f_X12_image
      rw [bq2, q_lies]
      dsimp only
      rw [if_neg hp, if_neg (fun w => w rfl), dv_bn2 r2]
  case pos =>
    obtain ⟨k, hk⟩ : ∃ k : Nat, (k : Int) = p := ⟨p.toNat, by omega⟩
    have k2 : k = 0 ∨ k = 1 := by omega
    have gi : V (A 0) 1 p = A (1 + (k + 1)) := by
      obtain ⟨-, q2, q3, -⟩ := h.2.1.1
      rcases k2 with rfl | rfl
      · rw [← hk]; exact q2
      · rw [← hk]; exact q3
    obtain ⟨V3, e1, f1, st⟩ := c_stand hA h.2.1 ng (d := k + 1) (s := 0) (by omega) (by decide) (by omega) h.2.2.1
    have e1 : f_X8_copyFrom V (A (1 + (k + 1))) (A 1) = (V3, 0) := e1
    obtain ⟨W5, m1, m2, m3, m4⟩ := m_img (W := W) (a := a) (p := p)
    have F : cf A (im_L k) V (dv_u V3 (A 0) 2 p 1) := cf_t (cf_m (sd_cf hA f1 (by omega)) (fun i m hL => by
      unfold im_L at hL
      simp only [Bool.or_eq_false_iff, Bool.and_eq_false_iff, beq_eq_false_iff_ne, decide_eq_false_iff_not, ne_eq] at hL ⊢
      omega)) (cf_u hA (by decide) (by unfold im_L; simp))
    have GW : wf a (fun m => m == 3 || m == 4) W (dv_u W5 a 4 p 1) := wf_t (wf_b m1 rfl) (wf_u rfl)
    have R : RR A a (dv_u V3 (A 0) 2 p 1) (dv_u W5 a 4 p 1) := by
      obtain ⟨-, h2, h3, h4, h5, h6, h7, h8, h9, h10⟩ := id h
      refine ⟨hA, G_c h2 (cf_ag F (by rcases k2 with rfl | rfl <;> rfl)), stR_c (by decide) h3 (cf_ag F (by rcases k2 with rfl | rfl <;> rfl)) (fun z _ => GW 2 _ rfl), fun j hj => ?_, tpR_c h5 (cf_ag F (by rcases k2 with rfl | rfl <;> rfl)) (fun z => GW 11 z rfl) (GW 13 0 rfl), psR_c h6 (cf_ag F (by rcases k2 with rfl | rfl <;> rfl)) (fun z => GW 31 z rfl) (GW 33 0 rfl), ppR_c h7 (cf_ag F (by rcases k2 with rfl | rfl <;> rfl)) (fun z => GW 54 z rfl) (GW 55 0 rfl), miR_c h8 (cf_ag F (by rcases k2 with rfl | rfl <;> rfl)) (GW 0 0 rfl) (fun z => GW 1 z rfl), taR_c h9 (cf_ag F (by rcases k2 with rfl | rfl <;> rfl)) (GW 14 0 rfl) (GW 6 0 rfl) (GW 47 0 rfl), rdR_c h10 (fun z => F 10 1 z (by decide) (by decide) (by rcases k2 with rfl | rfl <;> rfl)) (fun z _ => F 14 1 z (by decide) (by decide) (by rcases k2 with rfl | rfl <;> rfl)) (fun z => GW 7 z rfl) (fun z => GW 17 z rfl)⟩
      have w3 : ∀ z, dv_u W5 a 4 p 1 a 3 z = W5 a 3 z := fun z => u_j (by decide)
      by_cases q : j = k
      · subst q
        rw [hk, u_e, u_e]
        refine ⟨rfl, fun _ => stR_c (by omega) st (fun i m z hi hm hd => ?_) (fun z hz => by rw [w3, Int.zero_add]; exact m2 z hz.1 hz.2)⟩
        refine u_b (fun w => ?_)
        have := hA.1 i 0 hi (by decide) w
        subst this
        unfold st_D la_D at hd
        simp at hd
      · have nj : (j : Int) ≠ p := by omega
        have e2 : V3 (A 0) 2 (j : Int) = V (A 0) 2 (j : Int) := f1 _ 2 _ (fun w => inj_n hA (by decide) (by omega) (by omega) w.1) (fun w => inj_n hA (by decide) (by omega) (by omega) w.1) (fun t ht w => inj_n hA (by decide) (by omega) (by omega) w.1)
        rw [u_i nj, u_i nj, e2, m1 a 4 _ (fun w => absurd w.2 (by decide))]
        obtain ⟨i1, i2⟩ := h4 j hj
        refine ⟨i1, fun n0 => stR_c (by omega) (i2 n0) (fun i m z hi hm hd => F i m z hi hm ?_) (fun z hz => by rw [w3]; exact m3 _ (by omega))⟩
        unfold st_D la_D at hd
        unfold im_L
        simp only [Bool.or_eq_true, Bool.and_eq_true, beq_iff_eq, decide_eq_true_eq, bne_iff_ne, ne_eq] at hd
        simp only [Bool.or_eq_false_iff, Bool.and_eq_false_iff, beq_eq_false_iff_ne, decide_eq_false_iff_not, ne_eq]
        omega
    obtain ⟨V4, W4, r1, r2, r3⟩ := RR_good (t := 0) R (by decide)
    refine ⟨V4, W4, 0, ?_, ?_, r3⟩
    · unfold f_X11_image
      rw [if_neg (by omega), if_pos (by omega), bq, gi, bq, g0, dv_bn2 e1, bq, dv_bn2 r1]
    · unfold f_X12_image
      rw [bq2, q_lies]
      dsimp only
      rw [if_pos hp, if_pos (by decide)]
      exact m4 _ r2
theorem L_back (h : RR A a V W) (ng : NG V) : ∃ V' W' u, f_X11_back V (A 0) p = (V', u) ∧ f_X12_back W a p = (W', u) ∧ RR A a V' W' := by
  have hA := h.1
  obtain ⟨g0, g1, g10, -⟩ := RR_G h
  by_cases hp : 0 ≤ p ∧ p ≤ 1
  case neg =>
    obtain ⟨V2, W2, r1, r2, r3⟩ := RR_bad (k := -1) h (Or.inl ⟨rfl, rfl, rfl⟩)
    refine ⟨V2, W2, -1, ?_, ?_, r3⟩
    · unfold f_X11_back f_X11_back_9
      by_cases q : p < 0
      · rw [if_pos q, dv_bn2 r1]
      · rw [if_neg q, if_neg (by omega), dv_bn2 r1]
    · unfold f_X12_back
      rw [bq2, q_lies]
      dsimp only
      rw [if_neg hp, if_neg (fun w => w rfl), dv_bn2 r2]
  case pos =>
    obtain ⟨k, hk⟩ : ∃ k : Nat, (k : Int) = p := ⟨p.toNat, by omega⟩
    have k2 : k = 0 ∨ k = 1 := by omega
    have gi : V (A 0) 1 p = A (1 + (k + 1)) := by
      obtain ⟨-, q2, q3, -⟩ := h.2.1.1
      rcases k2 with rfl | rfl
      · rw [← hk]; exact q2
      · rw [← hk]; exact q3
    obtain ⟨i1, i2⟩ := h.2.2.2.1 k (by omega)
    rw [hk] at i1 i2
    by_cases e0 : V (A 0) 2 p = 0
    · obtain ⟨V2, W2, r1, r2, r3⟩ := RR_bad (k := -2) h (Or.inr (Or.inl ⟨rfl, rfl, rfl⟩))
      refine ⟨V2, W2, -2, ?_, ?_, r3⟩
      · unfold f_X11_back
        rw [if_neg (by omega), if_pos (by omega), bq, if_neg (fun w => w e0), dv_bn2 r1]
      · unfold f_X12_back
        rw [bq2, q_lies]
        dsimp only
        rw [if_pos hp, if_pos (by decide), bq, if_neg (fun w => w (by rw [← i1]; exact e0)), dv_bn2 r2]
    · obtain ⟨V3, e1, f1, st⟩ := c_stand hA h.2.1 ng (d := 0) (s := k + 1) (by decide) (by omega) (by omega) (i2 e0)
      have e1 : f_X8_copyFrom V (A 1) (A (1 + (k + 1))) = (V3, 0) := e1
      obtain ⟨W5, m1, m2, m4⟩ := m_bck (W := W) (a := a) (p := p)
      have F : cf A (fun i m => (i == 1 && (2 ≤ m && m ≤ 7)) || (i == 4 && m ≤ 10) || (20 ≤ i && i < 26) || (i == 15 && m == 4)) V (dv_u V3 (A 15) 4 0 0) := cf_t (cf_m (sd_cf hA f1 (by decide)) (fun i m hL => by
        simp only [Bool.or_eq_false_iff, Bool.and_eq_false_iff, beq_eq_false_iff_ne, decide_eq_false_iff_not, ne_eq] at hL ⊢
        omega)) (cf_u hA (by decide) (by simp))
      have GW : wf a (fun m => m == 2 || m == 33) W (dv_u W5 a 33 0 0) := wf_t (wf_b m1 rfl) (wf_u rfl)
      have R : RR A a (dv_u V3 (A 15) 4 0 0) (dv_u W5 a 33 0 0) := by
        obtain ⟨-, h2, h3, h4, h5, h6, h7, h8, h9, h10⟩ := id h
        refine ⟨hA, G_c h2 (cf_ag F rfl), stR_c (by decide) st (fun i m z hi hm hd => u_b (fun w => ?_)) (fun z hz => by rw [u_j (by decide), Int.zero_add]; exact m2 z hz.1 hz.2), imR_c h4 (cf_ag F rfl) (fun z => GW 3 z rfl) (fun z => GW 4 z rfl), tpR_c h5 (cf_ag F rfl) (fun z => GW 11 z rfl) (GW 13 0 rfl), ⟨by rw [u_e, u_e], by rw [u_e]; decide, fun v v0 v1 => absurd v1 (by rw [u_e]; omega)⟩, ppR_c h7 (cf_ag F rfl) (fun z => GW 54 z rfl) (GW 55 0 rfl), miR_c h8 (cf_ag F rfl) (GW 0 0 rfl) (fun z => GW 1 z rfl), taR_c h9 (cf_ag F rfl) (GW 14 0 rfl) (GW 6 0 rfl) (GW 47 0 rfl), rdR_c h10 (fun z => F 10 1 z (by decide) (by decide) rfl) (fun z _ => F 14 1 z (by decide) (by decide) rfl) (fun z => GW 7 z rfl) (fun z => GW 17 z rfl)⟩
        have := hA.1 i 15 hi (by decide) w
        subst this
        unfold st_D la_D at hd
        simp at hd
      obtain ⟨V4, W4, r1, r2, r3⟩ := RR_good (t := 0) R (by decide)
      have c10 : V3 (A 0) 10 0 = A 15 := by rw [f1 _ 10 0 (fun w => inj_n hA (by decide) (by decide) (by decide) w.1) (fun w => inj_n hA (by decide) (by decide) (by decide) w.1) (fun t ht w => inj_n hA (by decide) (by omega) (by omega) w.1), g10]
      have cl : f_X4_clear V3 (A 15) = (dv_u V3 (A 15) 4 0 0, 0) := by
        unfold f_X4_clear
        rw [bq]
      refine ⟨V4, W4, 0, ?_, ?_, r3⟩
      · unfold f_X11_back
        rw [if_neg (by omega), if_pos (by omega), bq, if_pos e0, bq, g0, bq, gi, dv_bn2 e1, bq, c10, dv_bn2 cl, dv_bn2 r1]
      · unfold f_X12_back
        rw [bq2, q_lies]
        dsimp only
        rw [if_pos hp, if_pos (by decide), bq, if_pos (by rw [← i1]; exact e0)]
        exact m4 _ r2
end QTP
section QTQ
variable {V V' V0 V1 V2 V3 W W' W1 W2 : dV} {a x y u n c p : Int} {A : Nat → Int}
theorem L_status (h : RR A a V W) : ∃ u, f_X11_status V (A 0) = (u, ()) ∧ f_X12_status W a = (u, ()) := ⟨W a 0 0, by unfold f_X11_status; rw [bq, h.2.2.2.2.2.2.2.1.2], by unfold f_X12_status; rw [bq]⟩
theorem L_fault (h : RR A a V W) : ∃ u, f_X11_fault V (A 0) = (u, ()) ∧ f_X12_fault W a = (u, ()) := ⟨W a 14 0, by unfold f_X11_fault; rw [bq, h.2.2.2.2.2.2.2.2.1.1], by unfold f_X12_fault; rw [bq]⟩
theorem L_fluff (h : RR A a V W) : ∃ u, f_X11_fluff V (A 0) = (u, ()) ∧ f_X12_fluff W a = (u, ()) := ⟨W a 6 0, by unfold f_X11_fluff; rw [bq, h.2.2.2.2.2.2.2.2.1.2.1], by unfold f_X12_fluff; rw [bq]⟩
theorem L_stopped (h : RR A a V W) : ∃ u, f_X11_stopped V (A 0) = (u, ()) ∧ f_X12_stopped W a = (u, ()) := ⟨W a 47 0, by unfold f_X11_stopped; rw [bq, h.2.2.2.2.2.2.2.2.1.2.2], by unfold f_X12_stopped; rw [bq]⟩
theorem L_drawn (h : RR A a V W) : ∃ u, f_X11_drawn V (A 0) p x = (u, ()) ∧ f_X12_drawn W a p x = (u, ()) := by
  have g3 : V (A 0) 3 0 = A 7 := h.2.1.1.2.2.2.1
  obtain ⟨k1, k2, k3⟩ := h.2.2.2.2.2.2.1
  unfold f_X11_drawn f_X12_drawn
  by_cases e : 0 ≤ p ∧ p < V (A 7) 7 0
  · obtain ⟨r2, r3, r4⟩ := k3 p e.1 (by omega)
    have hV : f_X1_has V (A 7) p = (1, ()) := by rw [q_has, if_pos e]
    have hW : f_X12_lies W p 0 (W a 55 0 - 1) = (1, ()) := by rw [q_lies, if_pos (by omega)]
    by_cases x2 : 0 ≤ x ∧ x ≤ 2
    · have hx : f_X12_lies W x 0 2 = (1, ()) := by rw [q_lies, if_pos x2]
      have hc : x = 0 ∨ x = 1 ∨ x = 2 := by omega
      rcases hc with rfl | rfl | rfl
      · refine ⟨W a 54 p, ?_, ?_⟩
        · rw [bq, g3, dv_bn2 hV, if_pos (by decide), if_pos rfl, bq, bq, r2]
        · rw [bq, bq, dv_bn2 hW, if_neg (by decide), dv_bn2 hx, if_pos (by decide), if_neg (fun w => w rfl), bq, bq, Int.zero_add]
      · refine ⟨W a 54 (9 + p), ?_, ?_⟩
        · rw [bq, g3, dv_bn2 hV, if_pos (by decide), if_neg (by decide), if_pos rfl, bq, bq, r3]
        · rw [bq, bq, dv_bn2 hW, if_neg (by decide), dv_bn2 hx, if_pos (by decide), if_pos (by decide), if_neg (fun w => w rfl), bq, bq]
      · refine ⟨W a 54 (18 + p), ?_, ?_⟩
        · rw [bq, g3, dv_bn2 hV, if_pos (by decide), if_neg (by decide), if_neg (by decide), if_pos rfl, bq, bq, r4]
        · rw [bq, bq, dv_bn2 hW, if_neg (by decide), dv_bn2 hx, if_pos (by decide), if_pos (by decide), if_pos (by decide), bq, bq]
    · have hx : f_X12_lies W x 0 2 = (0, ()) := by rw [q_lies, if_neg x2]
      refine ⟨-1, ?_, ?_⟩
      · rw [bq, g3, dv_bn2 hV, if_pos (show (1 : Int) ≠ 0 by decide), if_neg (show ¬ x = 0 by omega), if_neg (show ¬ x = 1 by omega), if_neg (show ¬ x = 2 by omega)]
      · rw [bq, bq, dv_bn2 hW, if_neg (show ¬ (1 : Int) = 0 by decide), dv_bn2 hx, if_neg (fun w => w rfl)]
  · have hV : f_X1_has V (A 7) p = (0, ()) := by rw [q_has, if_neg e]
    have hW : f_X12_lies W p 0 (W a 55 0 - 1) = (0, ()) := by rw [q_lies, if_neg (by omega)]
    refine ⟨-1, ?_, ?_⟩
    · rw [bq, g3, dv_bn2 hV, if_neg (fun w => w rfl)]
    · rw [bq, bq, dv_bn2 hW, if_pos rfl]
theorem L_count (h : RR A a V W) : ∃ u, f_X11_count V (A 0) p = (u, ()) ∧ f_X12_count W a p = (u, ()) := by
  obtain ⟨g0, g1, g10, g5, -⟩ := RR_G h
  obtain ⟨kk, e7, e8, e9, e10, e50, e51, e52, ec⟩ := RR_n h
  obtain ⟨-, -, ⟨⟨fe, -⟩, ⟨s1, -⟩, ⟨l1, -, l3, -⟩⟩, -, ⟨t1, -⟩, ⟨p1, -⟩, -, ⟨⟨m0, m1, m2, m3, m4⟩, -⟩, -⟩ := id h
  have s1 : V (A 1) 7 0 = W a 2 70 := by have := s1; rw [Int.zero_add] at this; exact this
  have l1 : V (A 1) 5 0 = W a 2 71 := by have := l1; rw [Int.zero_add] at this; exact this
  have l3 : V (A 1) 6 0 = W a 2 72 := by have := l3; rw [Int.zero_add] at this; exact this
  have fe : ef (V (A 4)) (kf (W a 2) 0) := fe
  unfold f_X11_count f_X12_count f_X12_termAt
  rw [bq, g0, bq, g1]
  by_cases q0 : p = 0
  · subst q0
    rw [if_pos rfl, if_pos rfl, bq, bq2, q_many]
    exact ⟨_, rfl, by rw [e7]⟩
  rw [if_neg q0, if_neg q0]
  by_cases q1 : p = 1
  · subst q1
    rw [if_pos rfl, if_pos rfl, bq2, bq2, q_laidCarpets kk.1.1.1 kk.1.1.2, q_laidMany2, ef_laid fe kk.1]
    exact ⟨_, rfl, rfl⟩
  rw [if_neg q1, if_neg q1]
  by_cases q2 : p = 2
  · subst q2
    have hk : kgf (kf (W a 2) 0) := kf_at (ef_9 fe) kk (by have := kk.2.2.2.2.2.1; omega)
    rw [if_pos rfl, if_pos rfl, bq2, bq2, q_rags kk.1, q_ragMany hk.1 (fun c c0 c1 => by
      have := (kk.2.2.1 c c0 (by omega)).2.2.2.1
      rw [(ec c c0 (by have := kk.1.1; omega)).2.2.1] at this
      exact this), ef_rag fe kk.1]
    exact ⟨_, rfl, rfl⟩
  rw [if_neg q2, if_neg q2]
  by_cases q3 : p = 3
  · subst q3
    rw [if_pos rfl, if_pos rfl, bq, bq]
    exact ⟨_, rfl, by rw [e10]⟩
  rw [if_neg q3, if_neg q3]
  by_cases q4 : p = 4
  · subst q4
    rw [if_pos rfl, if_pos rfl, bq, bq, bq]
    exact ⟨_, rfl, by rw [s1]⟩
  rw [if_neg q4, if_neg q4]
  by_cases q5 : p = 5
  · subst q5
    rw [if_pos rfl, if_pos rfl, bq, bq, bq]
    exact ⟨_, rfl, by rw [l1]⟩
  rw [if_neg q5, if_neg q5]
  by_cases q6 : p = 6
  · subst q6
    rw [if_pos rfl, if_pos rfl, bq, bq, bq, g10]
    exact ⟨_, rfl, by rw [p1]⟩
  rw [if_neg q6, if_neg q6]
  by_cases q7 : p = 7
  · subst q7
    rw [if_pos rfl, if_pos rfl, bq, bq, bq, g5]
    exact ⟨_, rfl, by rw [t1]⟩
  rw [if_neg q7, if_neg q7]
  by_cases q8 : p = 8
  · subst q8
    rw [if_pos rfl, if_pos rfl, bq, bq, bq, bq]
    exact ⟨_, rfl, by rw [show (8 : Int) - 7 = 1 from rfl, show (8 : Int) - 8 = 0 from rfl, m0]⟩
  rw [if_neg q8, if_neg q8]
  by_cases q9 : p = 9
  · subst q9
    rw [if_pos rfl, if_pos rfl, bq, bq, bq, bq]
    exact ⟨_, rfl, by rw [show (9 : Int) - 7 = 2 from rfl, show (9 : Int) - 8 = 1 from rfl, m1]⟩
  rw [if_neg q9, if_neg q9]
  by_cases q10 : p = 10
  · subst q10
    rw [if_pos rfl, if_pos rfl, bq, bq, bq, bq]
    exact ⟨_, rfl, by rw [show (10 : Int) - 7 = 3 from rfl, show (10 : Int) - 8 = 2 from rfl, m2]⟩
  rw [if_neg q10, if_neg q10]
  by_cases q11 : p = 11
  · subst q11
    rw [if_pos rfl, if_pos rfl, bq, bq, bq]
    exact ⟨_, rfl, by rw [show (11 : Int) - 8 = 3 from rfl, m3]⟩
  rw [if_neg q11, if_neg q11]
  by_cases q12 : p = 12
  · subst q12
    rw [if_pos rfl, if_pos rfl, bq, bq, bq]
    exact ⟨_, rfl, by rw [show (12 : Int) - 8 = 4 from rfl, m4]⟩
  rw [if_neg q12, if_neg q12]
  by_cases q13 : p = 13
  · subst q13
    rw [if_pos rfl, if_pos rfl, bq, bq, bq]
    exact ⟨_, rfl, by rw [l3]⟩
  rw [if_neg q13, if_neg q13]
  by_cases q14 : p = 14
  · subst q14
    refine ⟨W a 2 28, ?_, ?_⟩
    · rw [if_pos rfl, bq, bq, ← e50]; rfl
    · rw [if_pos rfl]; rfl
  rw [if_neg q14, if_neg q14]
  by_cases q15 : p = 15
  · subst q15
    refine ⟨W a 2 65, ?_, ?_⟩
    · rw [if_pos rfl, bq, bq, ← e51]; rfl
    · rw [if_pos rfl]; rfl
  rw [if_neg q15, if_neg q15]
  by_cases q16 : p = 16
  · subst q16
    refine ⟨W a 2 66, ?_, ?_⟩
    · rw [if_pos rfl, bq, bq, ← e52]; rfl
    · rw [if_pos rfl]; rfl
  rw [if_neg q16, if_neg q16]
  by_cases q17 : p = 17
  · subst q17
    rw [if_pos rfl, if_pos rfl, bq, bq]
    exact ⟨_, rfl, by rw [e8]⟩
  rw [if_neg q17, if_neg q17]
  by_cases q18 : p = 18
  · subst q18
    rw [if_pos rfl, if_pos rfl, bq, bq]
    exact ⟨_, rfl, by rw [e9]⟩
  rw [if_neg q18, if_neg q18]
  exact ⟨_, rfl, rfl⟩
theorem L_of (h : RR A a V W) : ∃ V' W' u, f_X11_of V (A 0) c x = (V', u) ∧ f_X12_of W a c x = (W', u) ∧ RR A a V' W' := by
  obtain ⟨g0, g1, g10, g5, g9, -⟩ := RR_G h
  obtain ⟨kk, e7, e8, e9, e10, e50, e51, e52, ec⟩ := RR_n h
  have n9 := kk.1.1
  unfold f_X11_of f_X12_of
  by_cases e : 0 ≤ c ∧ c < V (A 4) 7 0
  · obtain ⟨r0, r1, r2, r3, r4⟩ := ec c e.1 (by omega)
    have hV : f_X1_has V (A 4) c = (1, ()) := by rw [q_has, if_pos e]
    have hW : f_X12_isCarpet W a c = (1, ()) := by rw [q_isCarpet, if_pos (by omega)]
    rw [bq, g0, bq, g1, dv_bn2 hV, if_pos (show (1 : Int) ≠ 0 by decide), dv_bn2 hW, if_pos (show (1 : Int) ≠ 0 by decide)]
    by_cases x0 : x = 0
    · rw [if_pos x0, if_pos x0, bq, bq, bq]
      exact ⟨V, W, _, rfl, by rw [r0], h⟩
    rw [if_neg x0, if_neg x0]
    by_cases x1 : x = 1
    · rw [if_pos x1, if_pos x1, bq, bq, bq]
      exact ⟨V, W, _, rfl, by rw [r1], h⟩
    rw [if_neg x1, if_neg x1]
    by_cases x2 : x = 2
    · rw [if_pos x2, if_pos x2, bq, bq, bq]
      exact ⟨V, W, _, rfl, by rw [r2, Int.zero_add], h⟩
    rw [if_neg x2, if_neg x2]
    by_cases x3 : x = 3
    · rw [if_pos x3, if_pos x3, bq, bq, bq]
      exact ⟨V, W, _, rfl, by rw [r3], h⟩
    rw [if_neg x3, if_neg x3]
    by_cases x4 : x = 4
    · rw [if_pos x4, if_pos x4, bq, bq, bq]
      exact ⟨V, W, _, rfl, by rw [r4], h⟩
    rw [if_neg x4, if_neg x4]
    by_cases x5 : x = 5
    · rw [if_pos x5, if_pos x5]
      by_cases l3 : V (A 4) 3 c = -1
      · have lV : f_X1_isLaid V (A 4) c = (0, ()) := by rw [q_isLaid, if_neg (fun w => w.2.2 l3)]
        have lW : f_X12_isLaid W a c = (0, ()) := by rw [q_mLaid, if_pos (by rw [← r3]; exact l3)]
        rw [dv_bn2 lV, if_pos (show (0 : Int) = 0 from rfl), dv_bn2 lW, if_pos (show (0 : Int) = 0 from rfl)]
        exact ⟨V, W, _, rfl, rfl, h⟩
      · have lV : f_X1_isLaid V (A 4) c = (1, ()) := by rw [q_isLaid, if_pos ⟨e.1, e.2, l3⟩]
        have lW : f_X12_isLaid W a c = (1, ()) := by rw [q_mLaid, if_neg (by rw [← r3]; exact l3)]
        obtain ⟨lx, hlx, hjd⟩ := JX_jd (RR_JX h)
        obtain ⟨V', W', t, w1, w2, w3, w4, -⟩ := q_wear hjd e.1 e.2 l3
        rw [dv_bn2 lV, if_neg (show ¬ (1 : Int) = 0 by decide), dv_bn2 lW, if_neg (show ¬ (1 : Int) = 0 by decide), bq, bq, g9, dv_bn2 hlx, dv_bn2 w1, dv_bn2 w2]
        exact ⟨V', W', t, rfl, rfl, RR_j h w3 (jm_e w4)⟩
    rw [if_neg x5, if_neg x5]
    exact ⟨V, W, _, rfl, rfl, h⟩
  · have hV : f_X1_has V (A 4) c = (0, ()) := by rw [q_has, if_neg e]
    have hW : f_X12_isCarpet W a c = (0, ()) := by rw [q_isCarpet, if_neg (by omega)]
    rw [bq, g0, bq, g1, dv_bn2 hV, if_neg (show ¬ (0 : Int) ≠ 0 by decide), dv_bn2 hW, if_neg (show ¬ (0 : Int) ≠ 0 by decide)]
    exact ⟨V, W, _, rfl, rfl, h⟩
theorem L_asks (h : RR A a V W) : ∃ V' W' u, f_X11_asks V (A 0) c x y p = (V', u) ∧ f_X12_asks W a c x y p = (W', u) ∧ RR A a V' W' := by
  obtain ⟨g0, g1, g10, g5, g9, -⟩ := RR_G h
  obtain ⟨kk, e7, e8, e9, e10, e50, e51, e52, ec⟩ := RR_n h
  have n9 := kk.1.1
  unfold f_X11_asks f_X12_asks
  by_cases e : 0 ≤ c ∧ c < V (A 4) 7 0
  case neg =>
    have hV : f_X1_has V (A 4) c = (0, ()) := by rw [q_has, if_neg e]
    have hW : f_X12_isCarpet W a c = (0, ()) := by rw [q_isCarpet, if_neg (by omega)]
    rw [bq, g0, bq, g1, dv_bn2 hV, if_pos (show (0 : Int) = 0 from rfl), dv_bn2 hW, if_pos (show (0 : Int) = 0 from rfl)]
    exact ⟨V, W, _, rfl, rfl, h⟩
  have hV : f_X1_has V (A 4) c = (1, ()) := by rw [q_has, if_pos e]
  have hW : f_X12_isCarpet W a c = (1, ()) := by rw [q_isCarpet, if_pos (by omega)]
  rw [bq, g0, bq, g1, dv_bn2 hV, if_neg (show ¬ (1 : Int) = 0 by decide), dv_bn2 hW, if_neg (show ¬ (1 : Int) = 0 by decide)]
  by_cases hx : 0 ≤ x ∧ x ≤ 11
  case neg =>
    have gx : f_X11_onGrid V x = (0, ()) := by rw [c_onGrid, if_neg hx]
    have mx : f_X12_isAlong W x = (0, ()) := by rw [q_isAlong, if_neg hx]
    rw [dv_bn2 gx, if_pos (show (0 : Int) = 0 from rfl), dv_bn2 mx, if_pos (show (0 : Int) = 0 from rfl)]
    exact ⟨V, W, _, rfl, rfl, h⟩
  have gx : f_X11_onGrid V x = (1, ()) := by rw [c_onGrid, if_pos hx]
  have mx : f_X12_isAlong W x = (1, ()) := by rw [q_isAlong, if_pos hx]
  rw [dv_bn2 gx, if_neg (show ¬ (1 : Int) = 0 by decide), dv_bn2 mx, if_neg (show ¬ (1 : Int) = 0 by decide)]
  by_cases hy : 0 ≤ y ∧ y ≤ 11
  case neg =>
    have gy : f_X11_onGrid V y = (0, ()) := by rw [c_onGrid, if_neg hy]
    have my : f_X12_isAlong W y = (0, ()) := by rw [q_isAlong, if_neg hy]
    rw [dv_bn2 gy, if_neg (show ¬ (0 : Int) ≠ 0 by decide), dv_bn2 my, if_neg (show ¬ (0 : Int) ≠ 0 by decide)]
    exact ⟨V, W, _, rfl, rfl, h⟩
  have gy : f_X11_onGrid V y = (1, ()) := by rw [c_onGrid, if_pos hy]
  have my : f_X12_isAlong W y = (1, ()) := by rw [q_isAlong, if_pos hy]
  rw [dv_bn2 gy, if_pos (show (1 : Int) ≠ 0 by decide), dv_bn2 my, if_pos (show (1 : Int) ≠ 0 by decide)]
  obtain ⟨lx, hlx, hjd⟩ := JX_jd (RR_JX h)
  by_cases q0 : p = 0
  · obtain ⟨V', W', t, w1, w2, w3, w4, -⟩ := q_cost hjd e.1 e.2 hx hy
    rw [if_pos q0, if_pos q0, bq, bq, g9, dv_bn2 hlx, dv_bn2 w1, dv_bn2 w2]
    exact ⟨V', W', t, rfl, rfl, RR_j h w3 (jm_e w4)⟩
  rw [if_neg q0, if_neg q0]
  by_cases q1 : p = 1
  · obtain ⟨V', W', t, w1, w2, w3, w4, -⟩ := q_bar hjd e.1 e.2 hx hy
    rw [if_pos q1, if_pos q1, bq, bq, g9, dv_bn2 hlx, dv_bn2 w1, dv_bn2 w2]
    by_cases t0 : t = 0
    · rw [if_pos t0, if_pos t0]
      exact ⟨V', W', 0, rfl, rfl, RR_j h w3 (jm_e w4)⟩
    · rw [if_neg t0, if_neg t0]
      exact ⟨V', W', 1, rfl, rfl, RR_j h w3 (jm_e w4)⟩
  rw [if_neg q1, if_neg q1]
  by_cases q2 : p = 2
  · obtain ⟨V', W', t, w1, w2, w3, w4, -⟩ := q_can (RR_JX h) e.1 e.2 hx hy
    rw [if_pos q2, if_pos q2, dv_bn2 w1, dv_bn2 w2]
    by_cases t0 : t = 0
    · rw [if_pos t0, if_pos t0]
      exact ⟨V', W', 0, rfl, rfl, RR_j h w3 w4⟩
    · rw [if_neg t0, if_neg t0]
      exact ⟨V', W', 1, rfl, rfl, RR_j h w3 w4⟩
  rw [if_neg q2, if_neg q2]
  exact ⟨V, W, _, rfl, rfl, h⟩
end QTQ
section QTR
variable {V : dV} {p j k : Int}
theorem sm_32 : ∀ j : Fin 32, ((Int32.ofInt (j.1 : Int) &&& 31).toBitVec.smod 32).toNat = j.1 := by decide +kernel
theorem qb_shr (j0 : 0 ≤ j) (j1 : j < 32) : qb (dv_shr p j) 0 = qb p j.toNat := by
  unfold qb dv_shr
  have h := sm_32 ⟨j.toNat, by omega⟩
  simp only [show ((j.toNat : Nat) : Int) = j by omega] at h
  rw [Int32.ofInt_toInt, Int32.toBitVec_shiftRight]
  unfold BitVec.sshiftRight'
  rw [h, BitVec.getLsbD_sshiftRight]
  simp
  intro w
  omega
theorem qb_1 : ∀ i : Fin 32, qb 1 i.1 = decide (i.1 = 0) := by decide +kernel
theorem qb_m1 : ∀ i : Fin 32, qb (-1) i.1 = true := by decide +kernel
theorem qb_s1 : ∀ j : Fin 32, ∀ i : Fin 32, qb (dv_shl 1 (j.1 : Int)) i.1 = decide (i.1 = j.1) := by decide +kernel
theorem and_1 : dv_and p 1 = 1 ↔ qb p 0 = true := by
  constructor
  · intro h
    have h1 : qb (dv_and p 1) 0 = true := by rw [h]; exact qb_1 ⟨0, by decide⟩
    rw [qb_and] at h1
    cases hq : qb p 0 with
    | true => rfl
    | false => rw [hq] at h1; cases h1
  · intro h
    have h1 : (Int32.ofInt p &&& Int32.ofInt 1) = 1 := by
      apply Int32.toBitVec_inj.mp
      apply BitVec.eq_of_getLsbD_eq
      intro i hi
      have h3 : (Int32.ofInt p &&& Int32.ofInt 1).toBitVec.getLsbD i = (qb p i && qb 1 i) := by
        rw [Int32.toBitVec_and, BitVec.getLsbD_and]
        rfl
      have h4 : (1 : Int32).toBitVec.getLsbD i = qb 1 i := rfl
      rw [h3, h4, qb_1 ⟨i, hi⟩]
      by_cases e : i = 0
      · subst e; rw [h]; rfl
      · simp [e]
    unfold dv_and
    rw [h1]
    rfl
theorem q_isIn (j0 : 0 ≤ j) (j1 : j < 32) : f_X12_isIn V p j = (if qb p j.toNat then 1 else 0, ()) := by
  unfold f_X12_isIn
  rw [bq, bq]
  have h : dv_and (dv_shr p j) 1 = 1 ↔ qb p j.toNat = true := by rw [and_1, qb_shr j0 j1]
  by_cases e : qb p j.toNat = true
  · rw [if_neg (fun w => w (h.mpr e)), if_pos e]
  · rw [if_pos (fun w => e (h.mp w)), if_neg e]
/-- how many of the nine -/
def cnt (p : Int) : Nat := (if qb p 0 then 1 else 0) + (if qb p 1 then 1 else 0) + (if qb p 2 then 1 else 0) + (if qb p 3 then 1 else 0) + (if qb p 4 then 1 else 0) + (if qb p 5 then 1 else 0) + (if qb p 6 then 1 else 0) + (if qb p 7 then 1 else 0) + (if qb p 8 then 1 else 0)
theorem cnt_9 : cnt p ≤ 9 := by
  unfold cnt
  have h : ∀ b : Bool, (if b = true then 1 else 0) ≤ 1 := by intro b; cases b <;> decide
  have h0 := h (qb p 0)
  have h1 := h (qb p 1)
  have h2 := h (qb p 2)
  have h3 := h (qb p 3)
  have h4 := h (qb p 4)
  have h5 := h (qb p 5)
  have h6 := h (qb p 6)
  have h7 := h (qb p 7)
  have h8 := h (qb p 8)
  omega
theorem qb_off (j0 : 0 ≤ j) (j1 : j < 9) {i : Nat} (hi : i < 9) : qb (dv_and p (dv_xor (dv_shl 1 j) (-1))) i = (qb p i && !decide (i = j.toNat)) := by
  have h1 := qb_s1 ⟨j.toNat, by omega⟩ ⟨i, by omega⟩
  simp only [show ((j.toNat : Nat) : Int) = j by omega] at h1
  have h2 := qb_m1 ⟨i, by omega⟩
  simp only at h2
  rw [qb_and, qb_xor, h1, h2]
  simp
theorem cnt_off (j0 : 0 ≤ j) (j1 : j < 9) (h : qb p j.toNat = true) : cnt (dv_and p (dv_xor (dv_shl 1 j) (-1))) < cnt p := by
  obtain ⟨n, hn⟩ : ∃ n : Nat, n = j.toNat := ⟨_, rfl⟩
  have h9 : n < 9 := by omega
  unfold cnt
  rw [qb_off j0 j1 (by decide : 0 < 9), qb_off j0 j1 (by decide : 1 < 9), qb_off j0 j1 (by decide : 2 < 9), qb_off j0 j1 (by decide : 3 < 9), qb_off j0 j1 (by decide : 4 < 9), qb_off j0 j1 (by decide : 5 < 9), qb_off j0 j1 (by decide : 6 < 9), qb_off j0 j1 (by decide : 7 < 9), qb_off j0 j1 (by decide : 8 < 9)]
  rw [← hn] at h ⊢
  have hc : n = 0 ∨ n = 1 ∨ n = 2 ∨ n = 3 ∨ n = 4 ∨ n = 5 ∨ n = 6 ∨ n = 7 ∨ n = 8 := by omega
  rcases hc with rfl | rfl | rfl | rfl | rfl | rfl | rfl | rfl | rfl <;> simp [h] <;> omega
end QTR
