section MO7
/-- what a text is laid as -/
def mo_ly (k c : Int → Int) (t n i : Int) : Int → Int := fun z => if z = 73 + t then n else if 80 + 400 * t ≤ z ∧ z < 80 + 400 * t + i then c (z - (80 + 400 * t)) else k z
/-- bits of rows: so many carpets -/
def mo_cw (k : Int → Int) (f : Int → Int32) (n : Int) : Prop := ∀ y : Int, 0 ≤ y → y < 12 → ∀ x : Nat, x < 12 → (f y).toBitVec.getLsbD x = mo_pa k (x : Int) y n.toNat
theorem mo_pa_s {k : Int → Int} {x y c : Int} (h0 : 0 ≤ c) : mo_pa k x y (c + 1).toNat = ((mo_pa k x y c.toNat) ^^ decide (mo_co k c x y)) := by
  have e : (c + 1).toNat = c.toNat + 1 := by omega
  rw [e]
  show ((mo_pa k x y c.toNat) ^^ decide (mo_co k (c.toNat : Int) x y)) = _
  rw [Int.toNat_of_nonneg h0]
theorem mo_cw_0 {k : Int → Int} {f : Int → Int32} (h : ∀ z, 0 ≤ z → z < 12 → f z = 0) : mo_cw k f 0 := by
  intro y y0 y1 x x1
  rw [h y y0 y1]
  have e : (0 : Int32).toBitVec = 0#32 := rfl
  rw [e]
  simp [mo_pa]
theorem mo_cw_n {k : Int → Int} {f : Int → Int32} {c : Int} (h0 : 0 ≤ c) (h : mo_cw k f c) (hl : k (9 + c) = -1) : mo_cw k f (c + 1) := by
  intro y y0 y1 x x1
  rw [mo_pa_s h0, decide_eq_false (fun q => q.1 hl), Bool.xor_false]
  exact h y y0 y1 x x1
theorem mo_cw_s {k : Int → Int} {f g : Int → Int32} {c : Int} {s x y : Int32} (h0 : 0 ≤ c) (h : mo_cw k f c) (hl : k (9 + c) ≠ -1) (hs : k (29 + c) = s.toInt) (hx : k (9 + c) = x.toInt) (hy : k (18 + c) = y.toInt) (s0 : 0 ≤ s.toInt) (s1 : s.toInt ≤ 12) (x0 : 0 ≤ x.toInt) (x1 : x.toInt ≤ 11)
    (hg : ∀ z, g z = if y.toInt ≤ z ∧ z < y.toInt + s.toInt then f z ^^^ mo_mk s x else f z) : mo_cw k g (c + 1) := by
  intro z z0 z1 q q1
  rw [mo_pa_s h0, ← h z z0 z1 q q1, hg z]
  by_cases hz : y.toInt ≤ z ∧ z < y.toInt + s.toInt
  · rw [if_pos hz, Int32.toBitVec_xor, BitVec.getLsbD_xor, mo_mk_bit0 s0 s1 x0 x1 q1]
    congr 1
    apply decide_eq_decide.mpr
    unfold mo_co
    omega
  · rw [if_neg hz, decide_eq_false (fun w => hz (by unfold mo_co at w; omega)), Bool.xor_false]
/-- what geometry reads is the same -/
def mo_gx (k k' : Int → Int) : Prop := (∀ i, 9 ≤ i → i < 27 → k' i = k i) ∧ (∀ i, 29 ≤ i → i < 38 → k' i = k i) ∧ k' 67 = k 67 ∧ k' 68 = k 68 ∧ k' 69 = k 69
theorem mo_geo_gx {k k' : Int → Int} (h : mo_gx k k') (hk : mo_geo k) : mo_geo k' := by
  obtain ⟨a1, a2, e67, e68, e69⟩ := h
  obtain ⟨h1, h2, h3⟩ := hk
  refine ⟨by omega, fun c c0 c1 => ?_, fun c d c0 c1 d0 d1 => ?_⟩
  · rw [a1 (9 + c) (by omega) (by omega), a2 (29 + c) (by omega) (by omega), a1 (18 + c) (by omega) (by omega), e67, e68]
    exact h2 c c0 (by omega)
  · unfold mo_ap
    rw [a1 (9 + c) (by omega) (by omega), a2 (29 + c) (by omega) (by omega), a1 (18 + c) (by omega) (by omega), a1 (9 + d) (by omega) (by omega), a2 (29 + d) (by omega) (by omega), a1 (18 + d) (by omega) (by omega)]
    exact h3 c d c0 (by omega) d0 (by omega)
/-- all is as it was from SIDE on, and each carpet lies as it did or is rolled -/
def mo_sb (k k' : Int → Int) : Prop := (∀ i, 29 ≤ i → k' i = k i) ∧ ∀ c, 0 ≤ c → c < 9 → (k' (9 + c) = k (9 + c) ∧ k' (18 + c) = k (18 + c)) ∨ k' (9 + c) = -1
theorem mo_sb_rf {k : Int → Int} : mo_sb k k := ⟨fun _ _ => rfl, fun _ _ _ => Or.inl ⟨rfl, rfl⟩⟩
theorem mo_sb_st {k k' : Int → Int} {i v : Int} (h : mo_sb k k') (hi : (0 ≤ i ∧ i < 9) ∨ i = 27 ∨ i = 28) : mo_sb k (mo_u k' i v) := by
  refine ⟨fun j hj => by rw [mo_un (by omega)]; exact h.1 j hj, fun c c0 c1 => ?_⟩
  rw [mo_un (by omega), mo_un (by omega)]
  exact h.2 c c0 c1
theorem mo_sb_ro {k k' : Int → Int} {c : Int} (h : mo_sb k k') (c0 : 0 ≤ c) (c1 : c < 9) : mo_sb k (mo_u (mo_u k' (9 + c) (-1)) (18 + c) (-1)) := by
  refine ⟨fun j hj => by rw [mo_un (by omega), mo_un (by omega)]; exact h.1 j hj, fun d d0 d1 => ?_⟩
  by_cases e : d = c
  · right
    rw [mo_un (by omega), mo_us (by omega)]
  · rw [mo_un (by omega), mo_un (by omega), mo_un (by omega), mo_un (by omega)]
    exact h.2 d d0 d1
theorem mo_geo_sb {k k' : Int → Int} (h : mo_sb k k') (hk : mo_geo k) : mo_geo k' := by
  obtain ⟨a1, a2⟩ := h
  obtain ⟨h1, h2, h3⟩ := hk
  have e67 := a1 67 (by omega)
  have e68 := a1 68 (by omega)
  have e69 := a1 69 (by omega)
  refine ⟨by omega, fun c c0 c1 hl => ?_, fun c d c0 c1 d0 d1 hcd hl hd => ?_⟩
  · rcases a2 c c0 (by omega) with ⟨q1, q2⟩ | q
    · rw [q1] at hl
      rw [q1, q2, a1 (29 + c) (by omega), e67, e68]
      exact h2 c c0 (by omega) hl
    · exact absurd q hl
  · rcases a2 c c0 (by omega) with ⟨q1, q2⟩ | q
    · rcases a2 d d0 (by omega) with ⟨r1, r2⟩ | r
      · rw [q1] at hl
        rw [r1] at hd
        unfold mo_ap
        rw [q1, q2, r1, r2, a1 (29 + c) (by omega), a1 (29 + d) (by omega)]
        exact h3 c d c0 (by omega) d0 (by omega) hcd hl hd
      · exact absurd r hd
    · exact absurd q hl
/-- a carpet is laid -/
theorem mo_geo_lay {k k' : Int → Int} {c x y : Int} (hk : mo_geo k) (c0 : 0 ≤ c) (c1 : c < k 69) (hs : 1 ≤ k (29 + c)) (hn : k (9 + c) = -1) (x0 : 0 ≤ x) (y0 : 0 ≤ y) (hf : mo_fr k c x y) (h : ∀ i, i ≠ 27 → k' i = mo_u (mo_u k (9 + c) x) (18 + c) y i) : mo_geo k' := by
  obtain ⟨h1, h2, h3⟩ := hk
  obtain ⟨f1, f2, f3⟩ := hf
  have e : ∀ i, i ≠ 27 → i ≠ 9 + c → i ≠ 18 + c → k' i = k i := fun i a b d => by rw [h i a, mo_un d, mo_un b]
  have ex : k' (9 + c) = x := by rw [h _ (by omega), mo_un (by omega), mo_us rfl]
  have ey : k' (18 + c) = y := by rw [h _ (by omega), mo_us rfl]
  have e67 := e 67 (by omega) (by omega) (by omega)
  have e68 := e 68 (by omega) (by omega) (by omega)
  have e69 := e 69 (by omega) (by omega) (by omega)
  have ec := e (29 + c) (by omega) (by omega) (by omega)
  refine ⟨by omega, fun d d0 d1 hl => ?_, fun d d' d0 d1 d0' d1' hne hl hl' => ?_⟩
  · by_cases q : d = c
    · subst q
      rw [ex, ey, ec]
      omega
    · have a1 := e (9 + d) (by omega) (by omega) (by omega)
      have a2 := e (18 + d) (by omega) (by omega) (by omega)
      have a3 := e (29 + d) (by omega) (by omega) (by omega)
      have := h2 d d0 (by omega) (by omega)
      omega
  · unfold mo_ap
    by_cases q : d = c
    · subst q
      have a1 := e (9 + d') (by omega) (by omega) (by omega)
      have a2 := e (18 + d') (by omega) (by omega) (by omega)
      have a3 := e (29 + d') (by omega) (by omega) (by omega)
      have := f3 d' d0' (by omega) (by omega)
      omega
    · have b1 := e (9 + d) (by omega) (by omega) (by omega)
      have b2 := e (18 + d) (by omega) (by omega) (by omega)
      have b3 := e (29 + d) (by omega) (by omega) (by omega)
      by_cases q' : d' = c
      · subst q'
        have := f3 d d0 (by omega) (by omega)
        omega
      · have a1 := e (9 + d') (by omega) (by omega) (by omega)
        have a2 := e (18 + d') (by omega) (by omega) (by omega)
        have a3 := e (29 + d') (by omega) (by omega) (by omega)
        have := h3 d d' d0 (by omega) d0' (by omega) hne (by omega) (by omega)
        unfold mo_ap at this
        omega
/-- the hall is mirrored -/
theorem mo_geo_mi {k k' : Int → Int} (hk : mo_geo k) (h : ∀ i, 18 ≤ i → k' i = k i) (hx : ∀ c, 0 ≤ c → c < k 69 → k' (9 + c) = if k (9 + c) = -1 then -1 else k 67 - k (9 + c) - k (29 + c)) : mo_geo k' := by
  obtain ⟨h1, h2, h3⟩ := hk
  have e67 := h 67 (by omega)
  have e68 := h 68 (by omega)
  have e69 := h 69 (by omega)
  have hl : ∀ c, 0 ≤ c → c < k 69 → k' (9 + c) ≠ -1 → k (9 + c) ≠ -1 ∧ k' (9 + c) = k 67 - k (9 + c) - k (29 + c) := by
    intro c c0 c1 q
    have := hx c c0 c1
    by_cases w : k (9 + c) = -1
    · rw [if_pos w] at this
      exact absurd this q
    · rw [if_neg w] at this
      exact ⟨w, this⟩
  refine ⟨by omega, fun c c0 c1 q => ?_, fun c d c0 c1 d0 d1 hcd q q' => ?_⟩
  · obtain ⟨w1, w2⟩ := hl c c0 (by omega) q
    have a2 := h (18 + c) (by omega)
    have a3 := h (29 + c) (by omega)
    have := h2 c c0 (by omega) w1
    omega
  · obtain ⟨w1, w2⟩ := hl c c0 (by omega) q
    obtain ⟨v1, v2⟩ := hl d d0 (by omega) q'
    have a2 := h (18 + c) (by omega)
    have a3 := h (29 + c) (by omega)
    have b2 := h (18 + d) (by omega)
    have b3 := h (29 + d) (by omega)
    have := h3 c d c0 (by omega) d0 (by omega) hcd w1 v1
    unfold mo_ap at this ⊢
    omega
/-- a carpet comes -/
theorem mo_geo_ad {k k' : Int → Int} {c : Int} (hk : mo_geo k) (hc : k 69 = c) (c0 : 0 ≤ c) (c1 : c < 9) (h69 : k' 69 = c + 1) (hx : k' (9 + c) = -1) (h : ∀ i, 9 ≤ i → i < 69 → i ≠ 9 + c → i ≠ 18 + c → i ≠ 29 + c → i ≠ 38 + c → k' i = k i) : mo_geo k' := by
  obtain ⟨h1, h2, h3⟩ := hk
  have e67 := h 67 (by omega) (by omega) (by omega) (by omega) (by omega) (by omega)
  have e68 := h 68 (by omega) (by omega) (by omega) (by omega) (by omega) (by omega)
  have hh : ∀ d, 0 ≤ d → d < k' 69 → k' (9 + d) ≠ -1 → d < c ∧ k' (9 + d) = k (9 + d) ∧ k' (18 + d) = k (18 + d) ∧ k' (29 + d) = k (29 + d) := by
    intro d d0 d1 q
    have hd : d < c := by
      have : d ≠ c := fun e => q (by rw [e]; exact hx)
      omega
    exact ⟨hd, h _ (by omega) (by omega) (by omega) (by omega) (by omega) (by omega), h _ (by omega) (by omega) (by omega) (by omega) (by omega) (by omega), h _ (by omega) (by omega) (by omega) (by omega) (by omega) (by omega)⟩
  refine ⟨by omega, fun d d0 d1 q => ?_, fun d e d0 d1 e0 e1 hde q q' => ?_⟩
  · obtain ⟨w1, w2, w3, w4⟩ := hh d d0 d1 q
    rw [w2, w3, w4, e67, e68]
    exact h2 d d0 (by omega) (by omega)
  · obtain ⟨w1, w2, w3, w4⟩ := hh d d0 d1 q
    obtain ⟨v1, v2, v3, v4⟩ := hh e e0 e1 q'
    unfold mo_ap
    rw [w2, w3, w4, v2, v3, v4]
    exact h3 d e d0 (by omega) e0 (by omega) hde (by omega) (by omega)
/-- no carpet is laid -/
theorem mo_geo_0 {k : Int → Int} (h9 : k 69 ≤ 9) (h : ∀ c, 0 ≤ c → c < k 69 → k (9 + c) = -1) : mo_geo k := ⟨h9, fun c c0 c1 q => absurd (h c c0 c1) q, fun c d c0 c1 _ _ _ q _ => absurd (h c c0 c1) q⟩
theorem mo_kg_29 {k k' : Int → Int} (hk : mo_kg k) (h : ∀ i, 29 ≤ i → k' i = k i) (hg : mo_geo k') : mo_kg k' := by
  obtain ⟨h1, h2, h3, h4, h5⟩ := hk
  have e69 := h 69 (by omega)
  exact ⟨mo_lw_ext (fun i a _ => h i (by omega)) h1, hg, by rw [h 67 (by omega)]; exact h3, by rw [h 68 (by omega)]; exact h4, fun c c0 c1 => by rw [h (29 + c) (by omega)]; exact h5 c c0 (by omega)⟩
theorem mo_mx_29 {k k' l : Int → Int} {r : Int} (h : ∀ i, 29 ≤ i → k' i = k i) : mo_mx k' l r = mo_mx k l r := by
  funext i
  unfold mo_mx
  by_cases q : i < 29
  · rw [if_pos q, if_pos q]
  · rw [if_neg q, if_neg q]
    exact h i (by omega)
theorem mo_ok_29 {k k' im has l : Int → Int} {u : Int} (hk : mo_ok k im has l u) (h : ∀ i, 29 ≤ i → k' i = k i) (hg : mo_geo k') : mo_ok k' im has l u := ⟨mo_kg_29 hk.1 h hg, hk.2.1, fun r r0 r1 => by rw [mo_mx_29 h]; exact hk.2.2 r r0 r1⟩
theorem mo_ok_sb {k k' im has l : Int → Int} {u : Int} (hk : mo_ok k im has l u) (h : mo_sb k k') : mo_ok k' im has l u := mo_ok_29 hk h.1 (mo_geo_sb h hk.1.2.1)
theorem mo_ok_u0 {k im has l l' : Int → Int} {u : Int} (hk : mo_ok k im has l u) : mo_ok k im has l' 0 := ⟨hk.1, hk.2.1, fun r r0 r1 => by omega⟩
/-- rows of what can be undone: each is one that was, or what is kept -/
def mo_kp (k l l' : Int → Int) (u u' : Int) : Prop := 0 ≤ u' ∧ ∀ r, 0 ≤ r → r < u' → (∃ q, 0 ≤ q ∧ q < u ∧ ∀ i, 0 ≤ i → i < 29 → l' (30 * r + i) = l (30 * q + i)) ∨ ∀ i, 0 ≤ i → i < 29 → l' (30 * r + i) = k i
theorem mo_ok_kp {k im has l l' : Int → Int} {u u' : Int} (hk : mo_ok k im has l u) (h : mo_kp k l l' u u') : mo_ok k im has l' u' := by
  refine ⟨hk.1, hk.2.1, fun r r0 r1 => ?_⟩
  rcases h.2 r r0 r1 with ⟨q, q0, q1, e⟩ | e
  · refine mo_geo_ext (fun i a b => ?_) (hk.2.2 q q0 q1)
    unfold mo_mx
    by_cases w : i < 29
    · rw [if_pos w, if_pos w]
      exact e i a w
    · rw [if_neg w, if_neg w]
  · refine mo_geo_ext (fun i a b => ?_) hk.1.2.1
    unfold mo_mx
    by_cases w : i < 29
    · rw [if_pos w]
      exact e i a w
    · rw [if_neg w]
/-- the latest is undone -/
theorem mo_ok_un {k k' im has l : Int → Int} {u : Int} (hk : mo_ok k im has l u) (hu : 1 ≤ u) (h1 : ∀ i, 0 ≤ i → i < 29 → k' i = l (30 * (u - 1) + i)) (h2 : ∀ i, 29 ≤ i → k' i = k i) : mo_ok k' im has l (u - 1) := by
  have hg : mo_geo k' := by
    refine mo_geo_ext (fun i a b => ?_) (hk.2.2 (u - 1) (by omega) (by omega))
    unfold mo_mx
    by_cases w : i < 29
    · rw [if_pos w]
      exact h1 i a w
    · rw [if_neg w]
      exact h2 i (by omega)
  exact ⟨mo_kg_29 hk.1 h2 hg, hk.2.1, fun r r0 r1 => by rw [mo_mx_29 h2]; exact hk.2.2 r r0 (by omega)⟩
/-- a law comes -/
theorem mo_ok_law {k k' c im has l : Int → Int} {u t n : Int} (hk : mo_ok k im has l u) (ht : k 71 = t) (t1 : t < 6) (t0 : 0 ≤ t) (n1 : n ≤ 400) (htx : mo_text 0 (mo_tf c 0 n) n) (h : ∀ z, 0 ≤ z → z < 2880 → k' z = if z = 71 then t + 1 else mo_ly k c t n n z) : mo_ok k' im has l u := by
  have e : ∀ z, 0 ≤ z → z < 2880 → z ≠ 71 → z ≠ 73 + t → ¬ (80 + 400 * t ≤ z ∧ z < 80 + 400 * t + n) → k' z = k z := by
    intro z a b d f g
    rw [h z a b, if_neg d]
    unfold mo_ly
    rw [if_neg f, if_neg g]
  have gx : mo_gx k k' := ⟨fun i a b => e i (by omega) (by omega) (by omega) (by omega) (by omega), fun i a b => e i (by omega) (by omega) (by omega) (by omega) (by omega), e _ (by omega) (by omega) (by omega) (by omega) (by omega), e _ (by omega) (by omega) (by omega) (by omega) (by omega), e _ (by omega) (by omega) (by omega) (by omega) (by omega)⟩
  have e71 : k' 71 = t + 1 := by rw [h 71 (by omega) (by omega), if_pos rfl]
  obtain ⟨⟨h1, h2, h3, h4, h5⟩, h6, h7⟩ := hk
  have m9 := h2.1
  refine ⟨⟨⟨?_, by omega, fun t' t0' t1' => ?_⟩, mo_geo_gx gx h2, by rw [gx.2.2.1]; exact h3, by rw [gx.2.2.2.1]; exact h4, fun d d0 d1 => ?_⟩, h6, fun r r0 r1 => ?_⟩
  · rw [e 72 (by omega) (by omega) (by omega) (by omega) (by omega)]
    have := h1.1
    omega
  · by_cases q : t' = t
    · subst q
      have es : k' (73 + t') = n := by
        rw [h _ (by omega) (by omega), if_neg (by omega)]
        unfold mo_ly
        rw [if_pos rfl]
      rw [es]
      refine ⟨n1, ?_⟩
      have ef : mo_tf k' (80 + 400 * t') n = mo_tf c 0 n := by
        funext i
        unfold mo_tf
        by_cases w : 0 ≤ i ∧ i < n
        · rw [if_pos w, if_pos w, h _ (by omega) (by omega), if_neg (by omega)]
          unfold mo_ly
          rw [if_neg (by omega), if_pos (by omega)]
          congr 1
          omega
        · rw [if_neg w, if_neg w]
      rw [ef]
      exact htx
    · obtain ⟨w1, w2⟩ := h1.2.2 t' t0' (by omega)
      have es : k' (73 + t') = k (73 + t') := e _ (by omega) (by omega) (by omega) (by omega) (by omega)
      rw [es]
      refine ⟨w1, ?_⟩
      have ef : mo_tf k' (80 + 400 * t') (k (73 + t')) = mo_tf k (80 + 400 * t') (k (73 + t')) := by
        funext i
        unfold mo_tf
        by_cases w : 0 ≤ i ∧ i < k (73 + t')
        · rw [if_pos w, if_pos w]
          exact e _ (by omega) (by omega) (by omega) (by omega) (by omega)
        · rw [if_neg w, if_neg w]
      rw [ef]
      exact w2
  · rw [gx.2.1 (29 + d) (by omega) (by have := gx.2.2.2.2; omega)]
    exact h5 d d0 (by have := gx.2.2.2.2; omega)
  · refine mo_geo_gx ⟨fun i a b => ?_, fun i a b => ?_, ?_, ?_, ?_⟩ (h7 r r0 r1) <;> unfold mo_mx
    · rw [if_pos (by omega), if_pos (by omega)]
    · rw [if_neg (by omega), if_neg (by omega)]
      exact gx.2.1 i a b
    · rw [if_neg (by omega), if_neg (by omega)]
      exact gx.2.2.1
    · rw [if_neg (by omega), if_neg (by omega)]
      exact gx.2.2.2.1
    · rw [if_neg (by omega), if_neg (by omega)]
      exact gx.2.2.2.2
/-- what neither geometry nor laws read may change -/
theorem mo_ok_gx {k k' im has l : Int → Int} {u : Int} (hk : mo_ok k im has l u) (gx : mo_gx k k') (hlw : mo_lw k') : mo_ok k' im has l u := by
  obtain ⟨⟨h1, h2, h3, h4, h5⟩, h6, h7⟩ := hk
  have m9 := h2.1
  have e69 := gx.2.2.2.2
  refine ⟨⟨hlw, mo_geo_gx gx h2, by rw [gx.2.2.1]; exact h3, by rw [gx.2.2.2.1]; exact h4, fun d d0 d1 => ?_⟩, h6, fun r r0 r1 => ?_⟩
  · rw [gx.2.1 (29 + d) (by omega) (by omega)]
    exact h5 d d0 (by omega)
  · refine mo_geo_gx ⟨fun i a b => ?_, fun i a b => ?_, ?_, ?_, ?_⟩ (h7 r r0 r1) <;> unfold mo_mx
    · rw [if_pos (by omega), if_pos (by omega)]
    · rw [if_neg (by omega), if_neg (by omega)]
      exact gx.2.1 i a b
    · rw [if_neg (by omega), if_neg (by omega)]
      exact gx.2.2.1
    · rw [if_neg (by omega), if_neg (by omega)]
      exact gx.2.2.2.1
    · rw [if_neg (by omega), if_neg (by omega)]
      exact gx.2.2.2.2
theorem mo_gx_u {k : Int → Int} {i v : Int} (h : i < 9 ∨ i = 27 ∨ i = 28 ∨ (38 ≤ i ∧ i < 67) ∨ 70 ≤ i) : mo_gx k (mo_u k i v) := ⟨fun _ _ _ => mo_un (by omega), fun _ _ _ => mo_un (by omega), mo_un (by omega), mo_un (by omega), mo_un (by omega)⟩
theorem mo_lw_u {k : Int → Int} {i v : Int} (hk : mo_lw k) (h : i < 71) : mo_lw (mo_u k i v) := mo_lw_ext (fun _ _ _ => mo_un (by omega)) hk
theorem mo_lw_f {k : Int → Int} {v : Int} (hk : mo_lw k) (h : v < k 71) : mo_lw (mo_u k 72 v) := by
  obtain ⟨h1, h2, h3⟩ := hk
  have e : ∀ i, i ≠ 72 → mo_u k 72 v i = k i := fun i q => mo_un q
  refine ⟨by rw [mo_us rfl, e 71 (by omega)]; exact h, by rw [e 71 (by omega)]; exact h2, fun t t0 t1 => ?_⟩
  rw [e 71 (by omega)] at t1
  rw [e (73 + t) (by omega)]
  obtain ⟨w1, w2⟩ := h3 t t0 t1
  refine ⟨w1, ?_⟩
  have ef : mo_tf (mo_u k 72 v) (80 + 400 * t) (k (73 + t)) = mo_tf k (80 + 400 * t) (k (73 + t)) := by
    funext i
    unfold mo_tf
    by_cases w : 0 ≤ i ∧ i < k (73 + t)
    · rw [if_pos w, if_pos w]
      exact e _ (by omega)
    · rw [if_neg w, if_neg w]
  rw [ef]
  exact w2
end MO7
