section
section MO7
/-- what a text is laid as -/
def mo_ly (k c : Int → Int) (t n i : Int) : Int → Int := fun z => if z = 73 + t then n else if 80 + 400 * t ≤ z ∧ z < 80 + 400 * t + i then c (z - (80 + 400 * t)) else k z
/-- bits of rows: so many carpets -/
def mo_cw (k : Int → Int) (f : Int → Int32) (n : Int) : Prop := ∀ y : Int, 0 ≤ y → y < 12 → ∀ x : Nat, x < 12 → (f y).toBitVec.getLsbD x = mo_pa k (x : Int) y n.toNat
theorem mo_pa_s {k : Int → Int} {x y c : Int} (h0 : 0 ≤ c) : mo_pa k x y (c + 1).toNat = ((mo_pa k x y c.toNat) ^^ decide (mo_co k c x y)) := by
  have e : (c + 1).toNat = c.toNat + 1 := by omega
  rw [e]
  show ((mo_pa k x y c.toNat) ^^ decide (mo_co k (c.toNat : Int) x y)) = _
  rw [Int.toNat_of_nonneg h0]
theorem mo_cw_0 {k : Int → Int} {f : Int → Int32} (h : ∀ z, 0 ≤ z → z < 12 → f z = 0) : mo_cw k f 0 := by
  intro y y0 y1 x x1
  rw [h y y0 y1]
  have e : (0 : Int32).toBitVec = 0#32 := rfl
  rw [e]
  simp [mo_pa]
theorem mo_cw_n {k : Int → Int} {f : Int → Int32} {c : Int} (h0 : 0 ≤ c) (h : mo_cw k f c) (hl : k (9 + c) = -1) : mo_cw k f (c + 1) := by
  intro y y0 y1 x x1
  rw [mo_pa_s h0, decide_eq_false (fun q => q.1 hl), Bool.xor_false]
  exact h y y0 y1 x x1
theorem mo_cw_s {k : Int → Int} {f g : Int → Int32} {c : Int} {s x y : Int32} (h0 : 0 ≤ c) (h : mo_cw k f c) (hl : k (9 + c) ≠ -1) (hs : k (29 + c) = s.toInt) (hx : k (9 + c) = x.toInt) (hy : k (18 + c) = y.toInt) (s0 : 0 ≤ s.toInt) (s1 : s.toInt ≤ 12) (x0 : 0 ≤ x.toInt) (x1 : x.toInt ≤ 11)
    (hg : ∀ z, g z = if y.toInt ≤ z ∧ z < y.toInt + s.toInt then f z ^^^ mo_mk s x else f z) : mo_cw k g (c + 1) := by
  intro z z0 z1 q q1
  rw [mo_pa_s h0, ← h z z0 z1 q q1, hg z]
  by_cases hz : y.toInt ≤ z ∧ z < y.toInt + s.toInt
  · rw [if_pos hz, Int32.toBitVec_xor, BitVec.getLsbD_xor, mo_mk_bit0 s0 s1 x0 x1 q1]
    congr 1
    apply decide_eq_decide.mpr
    unfold mo_co
    omega
  · rw [if_neg hz, decide_eq_false (fun w => hz (by unfold mo_co at w; omega)), Bool.xor_false]
/-- what geometry reads is the same -/
def mo_gx (k k' : Int → Int) : Prop := (∀ i, 9 ≤ i → i < 27 → k' i = k i) ∧ (∀ i, 29 ≤ i → i < 38 → k' i = k i) ∧ k' 67 = k 67 ∧ k' 68 = k 68 ∧ k' 69 = k 69
theorem mo_geo_gx {k k' : Int → Int} (h : mo_gx k k') (hk : mo_geo k) : mo_geo k' := by
  obtain ⟨a1, a2, e67, e68, e69⟩ := h
  obtain ⟨h1, h2, h3⟩ := hk
  refine ⟨by omega, fun c c0 c1 => ?_, fun c d c0 c1 d0 d1 => ?_⟩
  · rw [a1 (9 + c) (by omega) (by omega), a2 (29 + c) (by omega) (by omega), a1 (18 + c) (by omega) (by omega), e67, e68]
    exact h2 c c0 (by omega)
  · unfold mo_ap
    rw [a1 (9 + c) (by omega) (by omega), a2 (29 + c) (by omega) (by omega), a1 (18 + c) (by omega) (by omega), a1 (9 + d) (by omega) (by omega), a2 (29 + d) (by omega) (by omega), a1 (18 + d) (by omega) (by omega)]
    exact h3 c d c0 (by omega) d0 (by omega)
/-- all is as it was from SIDE on, and each carpet lies as it did or is rolled -/
def mo_sb (k k' : Int → Int) : Prop := (∀ i, 29 ≤ i → k' i = k i) ∧ ∀ c, 0 ≤ c → c < 9 → (k' (9 + c) = k (9 + c) ∧ k' (18 + c) = k (18 + c)) ∨ k' (9 + c) = -1
theorem mo_sb_rf {k : Int → Int} : mo_sb k k := ⟨fun _ _ => rfl, fun _ _ _ => Or.inl ⟨rfl, rfl⟩⟩
theorem mo_sb_st {k k' : Int → Int} {i v : Int} (h : mo_sb k k') (hi : (0 ≤ i ∧ i < 9) ∨ i = 27 ∨ i = 28) : mo_sb k (mo_u k' i v) := by
  refine ⟨fun j hj => by rw [mo_un (by omega)]; exact h.1 j hj, fun c c0 c1 => ?_⟩
  rw [mo_un (by omega), mo_un (by omega)]
  exact h.2 c c0 c1
theorem mo_sb_ro {k k' : Int → Int} {c : Int} (h : mo_sb k k') (c0 : 0 ≤ c) (c1 : c < 9) : mo_sb k (mo_u (mo_u k' (9 + c) (-1)) (18 + c) (-1)) := by
  refine ⟨fun j hj => by rw [mo_un (by omega), mo_un (by omega)]; exact h.1 j hj, fun d d0 d1 => ?_⟩
  by_cases e : d = c
  · right
    rw [mo_un (by omega), mo_us (by omega)]
  · rw [mo_un (by omega), mo_un (by omega), mo_un (by omega), mo_un (by omega)]
    exact h.2 d d0 d1
theorem mo_geo_sb {k k' : Int → Int} (h : mo_sb k k') (hk : mo_geo k) : mo_geo k' := by
  obtain ⟨a1, a2⟩ := h
  obtain ⟨h1, h2, h3⟩ := hk
  have e67 := a1 67 (by omega)
  have e68 := a1 68 (by omega)
  have e69 := a1 69 (by omega)
  refine ⟨by omega, fun c c0 c1 hl => ?_, fun c d c0 c1 d0 d1 hcd hl hd => ?_⟩
  · rcases a2 c c0 (by omega) with ⟨q1, q2⟩ | q
    · rw [q1] at hl
      rw [q1, q2, a1 (29 + c) (by omega), e67, e68]
      exact h2 c c0 (by omega) hl
    · exact absurd q hl
  · rcases a2 c c0 (by omega) with ⟨q1, q2⟩ | q
    · rcases a2 d d0 (by omega) with ⟨r1, r2⟩ | r
      · rw [q1] at hl
        rw [r1] at hd
        unfold mo_ap
        rw [q1, q2, r1, r2, a1 (29 + c) (by omega), a1 (29 + d) (by omega)]
        exact h3 c d c0 (by omega) d0 (by omega) hcd hl hd
      · exact absurd r hd
    · exact absurd q hl
/-- a carpet is laid -/
theorem mo_geo_lay {k k' : Int → Int} {c x y : Int} (hk : mo_geo k) (c0 : 0 ≤ c) (c1 : c < k 69) (hs : 1 ≤ k (29 + c)) (hn : k (9 + c) = -1) (x0 : 0 ≤ x) (y0 : 0 ≤ y) (hf : mo_fr k c x y) (h : ∀ i, i ≠ 27 → k' i = mo_u (mo_u k (9 + c) x) (18 + c) y i) : mo_geo k' := by
  obtain ⟨h1, h2, h3⟩ := hk
  obtain ⟨f1, f2, f3⟩ := hf
  have e : ∀ i, i ≠ 27 → i ≠ 9 + c → i ≠ 18 + c → k' i = k i := fun i a b d => by rw [h i a, mo_un d, mo_un b]
  have ex : k' (9 + c) = x := by rw [h _ (by omega), mo_un (by omega), mo_us rfl]
  have ey : k' (18 + c) = y := by rw [h _ (by omega), mo_us rfl]
  have e67 := e 67 (by omega) (by omega) (by omega)
  have e68 := e 68 (by omega) (by omega) (by omega)
  have e69 := e 69 (by omega) (by omega) (by omega)
  have ec := e (29 + c) (by omega) (by omega) (by omega)
  refine ⟨by omega, fun d d0 d1 hl => ?_, fun d d' d0 d1 d0' d1' hne hl hl' => ?_⟩
  · by_cases q : d = c
    · subst q
      rw [ex, ey, ec]
      omega
    · have a1 := e (9 + d) (by omega) (by omega) (by omega)
      have a2 := e (18 + d) (by omega) (by omega) (by omega)
      have a3 := e (29 + d) (by omega) (by omega) (by omega)
      have := h2 d d0 (by omega) (by omega)
      omega
  · unfold mo_ap
    by_cases q : d = c
    · subst q
      have a1 := e (9 + d') (by omega) (by omega) (by omega)
      have a2 := e (18 + d') (by omega) (by omega) (by omega)
      have a3 := e (29 + d') (by omega) (by omega) (by omega)
      have := f3 d' d0' (by omega) (by omega)
      omega
    · have b1 := e (9 + d) (by omega) (by omega) (by omega)
      have b2 := e (18 + d) (by omega) (by omega) (by omega)
      have b3 := e (29 + d) (by omega) (by omega) (by omega)
      by_cases q' : d' = c
      · subst q'
        have := f3 d d0 (by omega) (by omega)
        omega
      · have a1 := e (9 + d') (by omega) (by omega) (by omega)
        have a2 := e (18 + d') (by omega) (by omega) (by omega)
        have a3 := e (29 + d') (by omega) (by omega) (by omega)
        have := h3 d d' d0 (by omega) d0' (by omega) hne (by omega) (by omega)
        unfold mo_ap at this
        omega
/-- the hall is mirrored -/
theorem mo_geo_mi {k k' : Int → Int} (hk : mo_geo k) (h : ∀ i, 18 ≤ i → k' i = k i) (hx : ∀ c, 0 ≤ c → c < k 69 → k' (9 + c) = if k (9 + c) = -1 then -1 else k 67 - k (9 + c) - k (29 + c)) : mo_geo k' := by
  obtain ⟨h1, h2, h3⟩ := hk
  have e67 := h 67 (by omega)
  have e68 := h 68 (by omega)
  have e69 := h 69 (by omega)
  have hl : ∀ c, 0 ≤ c → c < k 69 → k' (9 + c) ≠ -1 → k (9 + c) ≠ -1 ∧ k' (9 + c) = k 67 - k (9 + c) - k (29 + c) := by
    intro c c0 c1 q
    have := hx c c0 c1
    by_cases w : k (9 + c) = -1
    · rw [if_pos w] at this
      exact absurd this q
    · rw [if_neg w] at this
      exact ⟨w, this⟩
  refine ⟨by omega, fun c c0 c1 q => ?_, fun c d c0 c1 d0 d1 hcd q q' => ?_⟩
  · obtain ⟨w1, w2⟩ := hl c c0 (by omega) q
    have a2 := h (18 + c) (by omega)
    have a3 := h (29 + c) (by omega)
    have := h2 c c0 (by omega) w1
    omega
  · obtain ⟨w1, w2⟩ := hl c c0 (by omega) q
    obtain ⟨v1, v2⟩ := hl d d0 (by omega) q'
    have a2 := h (18 + c) (by omega)
    have a3 := h (29 + c) (by omega)
    have b2 := h (18 + d) (by omega)
    have b3 := h (29 + d) (by omega)
    have := h3 c d c0 (by omega) d0 (by omega) hcd w1 v1
    unfold mo_ap at this ⊢
    omega
/-- a carpet comes -/
theorem mo_geo_ad {k k' : Int → Int} {c : Int} (hk : mo_geo k) (hc : k 69 = c) (c0 : 0 ≤ c) (c1 : c < 9) (h69 : k' 69 = c + 1) (hx : k' (9 + c) = -1) (h : ∀ i, 9 ≤ i → i < 69 → i ≠ 9 + c → i ≠ 18 + c → i ≠ 29 + c → i ≠ 38 + c → k' i = k i) : mo_geo k' := by
  obtain ⟨h1, h2, h3⟩ := hk
  have e67 := h 67 (by omega) (by omega) (by omega) (by omega) (by omega) (by omega)
  have e68 := h 68 (by omega) (by omega) (by omega) (by omega) (by omega) (by omega)
  have hh : ∀ d, 0 ≤ d → d < k' 69 → k' (9 + d) ≠ -1 → d < c ∧ k' (9 + d) = k (9 + d) ∧ k' (18 + d) = k (18 + d) ∧ k' (29 + d) = k (29 + d) := by
    intro d d0 d1 q
    have hd : d < c := by
      have : d ≠ c := fun e => q (by rw [e]; exact hx)
      omega
    exact ⟨hd, h _ (by omega) (by omega) (by omega) (by omega) (by omega) (by omega), h _ (by omega) (by omega) (by omega) (by omega) (by omega) (by omega), h _ (by omega) (by omega) (by omega) (by omega) (by omega) (by omega)⟩
  refine ⟨by omega, fun d d0 d1 q => ?_, fun d e d0 d1 e0 e1 hde q q' => ?_⟩
  · obtain ⟨w1, w2, w3, w4⟩ := hh d d0 d1 q
    rw [w2, w3, w4, e67, e68]
    exact h2 d d0 (by omega) (by omega)
  · obtain ⟨w1, w2, w3, w4⟩ := hh d d0 d1 q
    obtain ⟨v1, v2, v3, v4⟩ := hh e e0 e1 q'
    unfold mo_ap
    rw [w2, w3, w4, v2, v3, v4]
    exact h3 d e d0 (by omega) e0 (by omega) hde (by omega) (by omega)
/-- no carpet is laid -/
theorem mo_geo_0 {k : Int → Int} (h9 : k 69 ≤ 9) (h : ∀ c, 0 ≤ c → c < k 69 → k (9 + c) = -1) : mo_geo k := ⟨h9, fun c c0 c1 q => absurd (h c c0 c1) q, fun c d c0 c1 _ _ _ q _ => absurd (h c c0 c1) q⟩
theorem mo_kg_29 {k k' : Int → Int} (hk : mo_kg k) (h : ∀ i, 29 ≤ i → k' i = k i) (hg : mo_geo k') : mo_kg k' := by
  obtain ⟨h1, h2, h3, h4, h5⟩ := hk
  have e69 := h 69 (by omega)
  exact ⟨mo_lw_ext (fun i a _ => h i (by omega)) h1, hg, by rw [h 67 (by omega)]; exact h3, by rw [h 68 (by omega)]; exact h4, fun c c0 c1 => by rw [h (29 + c) (by omega)]; exact h5 c c0 (by omega)⟩
theorem mo_mx_29 {k k' l : Int → Int} {r : Int} (h : ∀ i, 29 ≤ i → k' i = k i) : mo_mx k' l r = mo_mx k l r := by
  funext i
  unfold mo_mx
  by_cases q : i < 29
  · rw [if_pos q, if_pos q]
  · rw [if_neg q, if_neg q]
    exact h i (by omega)
theorem mo_ok_29 {k k' im has l : Int → Int} {u : Int} (hk : mo_ok k im has l u) (h : ∀ i, 29 ≤ i → k' i = k i) (hg : mo_geo k') : mo_ok k' im has l u := ⟨mo_kg_29 hk.1 h hg, hk.2.1, fun r r0 r1 => by rw [mo_mx_29 h]; exact hk.2.2 r r0 r1⟩
theorem mo_ok_sb {k k' im has l : Int → Int} {u : Int} (hk : mo_ok k im has l u) (h : mo_sb k k') : mo_ok k' im has l u := mo_ok_29 hk h.1 (mo_geo_sb h hk.1.2.1)
theorem mo_ok_u0 {k im has l l' : Int → Int} {u : Int} (hk : mo_ok k im has l u) : mo_ok k im has l' 0 := ⟨hk.1, hk.2.1, fun r r0 r1 => by omega⟩
/-- rows of what can be undone: each is one that was, or what is kept -/
def mo_kp (k l l' : Int → Int) (u u' : Int) : Prop := 0 ≤ u' ∧ ∀ r, 0 ≤ r → r < u' → (∃ q, 0 ≤ q ∧ q < u ∧ ∀ i, 0 ≤ i → i < 29 → l' (30 * r + i) = l (30 * q + i)) ∨ ∀ i, 0 ≤ i → i < 29 → l' (30 * r + i) = k i
theorem mo_ok_kp {k im has l l' : Int → Int} {u u' : Int} (hk : mo_ok k im has l u) (h : mo_kp k l l' u u') : mo_ok k im has l' u' := by
  refine ⟨hk.1, hk.2.1, fun r r0 r1 => ?_⟩
  rcases h.2 r r0 r1 with ⟨q, q0, q1, e⟩ | e
  · refine mo_geo_ext (fun i a b => ?_) (hk.2.2 q q0 q1)
    unfold mo_mx
    by_cases w : i < 29
    · rw [if_pos w, if_pos w]
      exact e i a w
    · rw [if_neg w, if_neg w]
  · refine mo_geo_ext (fun i a b => ?_) hk.1.2.1
    unfold mo_mx
    by_cases w : i < 29
    · rw [if_pos w]
      exact e i a w
    · rw [if_neg w]
/-- the latest is undone -/
theorem mo_ok_un {k k' im has l : Int → Int} {u : Int} (hk : mo_ok k im has l u) (hu : 1 ≤ u) (h1 : ∀ i, 0 ≤ i → i < 29 → k' i = l (30 * (u - 1) + i)) (h2 : ∀ i, 29 ≤ i → k' i = k i) : mo_ok k' im has l (u - 1) := by
  have hg : mo_geo k' := by
    refine mo_geo_ext (fun i a b => ?_) (hk.2.2 (u - 1) (by omega) (by omega))
    unfold mo_mx
    by_cases w : i < 29
    · rw [if_pos w]
      exact h1 i a w
    · rw [if_neg w]
      exact h2 i (by omega)
  exact ⟨mo_kg_29 hk.1 h2 hg, hk.2.1, fun r r0 r1 => by rw [mo_mx_29 h2]; exact hk.2.2 r r0 (by omega)⟩
/-- a law comes -/
theorem mo_ok_law {k k' c im has l : Int → Int} {u t n : Int} (hk : mo_ok k im has l u) (ht : k 71 = t) (t1 : t < 6) (t0 : 0 ≤ t) (n1 : n ≤ 400) (htx : mo_text 0 (mo_tf c 0 n) n) (h : ∀ z, 0 ≤ z → z < 2880 → k' z = if z = 71 then t + 1 else mo_ly k c t n n z) : mo_ok k' im has l u := by
  have e : ∀ z, 0 ≤ z → z < 2880 → z ≠ 71 → z ≠ 73 + t → ¬ (80 + 400 * t ≤ z ∧ z < 80 + 400 * t + n) → k' z = k z := by
    intro z a b d f g
    rw [h z a b, if_neg d]
    unfold mo_ly
    rw [if_neg f, if_neg g]
  have gx : mo_gx k k' := ⟨fun i a b => e i (by omega) (by omega) (by omega) (by omega) (by omega), fun i a b => e i (by omega) (by omega) (by omega) (by omega) (by omega), e _ (by omega) (by omega) (by omega) (by omega) (by omega), e _ (by omega) (by omega) (by omega) (by omega) (by omega), e _ (by omega) (by omega) (by omega) (by omega) (by omega)⟩
  have e71 : k' 71 = t + 1 := by rw [h 71 (by omega) (by omega), if_pos rfl]
  obtain ⟨⟨h1, h2, h3, h4, h5⟩, h6, h7⟩ := hk
  have m9 := h2.1
  refine ⟨⟨⟨?_, by omega, fun t' t0' t1' => ?_⟩, mo_geo_gx gx h2, by rw [gx.2.2.1]; exact h3, by rw [gx.2.2.2.1]; exact h4, fun d d0 d1 => ?_⟩, h6, fun r r0 r1 => ?_⟩
  · rw [e 72 (by omega) (by omega) (by omega) (by omega) (by omega)]
    have := h1.1
    omega
  · by_cases q : t' = t
    · subst q
      have es : k' (73 + t') = n := by
        rw [h _ (by omega) (by omega), if_neg (by omega)]
        unfold mo_ly
        rw [if_pos rfl]
      rw [es]
      refine ⟨n1, ?_⟩
      have ef : mo_tf k' (80 + 400 * t') n = mo_tf c 0 n := by
        funext i
        unfold mo_tf
        by_cases w : 0 ≤ i ∧ i < n
        · rw [if_pos w, if_pos w, h _ (by omega) (by omega), if_neg (by omega)]
          unfold mo_ly
          rw [if_neg (by omega), if_pos (by omega)]
          congr 1
          omega
        · rw [if_neg w, if_neg w]
      rw [ef]
      exact htx
    · obtain ⟨w1, w2⟩ := h1.2.2 t' t0' (by omega)
      have es : k' (73 + t') = k (73 + t') := e _ (by omega) (by omega) (by omega) (by omega) (by omega)
      rw [es]
      refine ⟨w1, ?_⟩
      have ef : mo_tf k' (80 + 400 * t') (k (73 + t')) = mo_tf k (80 + 400 * t') (k (73 + t')) := by
        funext i
        unfold mo_tf
        by_cases w : 0 ≤ i ∧ i < k (73 + t')
        · rw [if_pos w, if_pos w]
          exact e _ (by omega) (by omega) (by omega) (by omega) (by omega)
        · rw [if_neg w, if_neg w]
      rw [ef]
      exact w2
  · rw [gx.2.1 (29 + d) (by omega) (by have := gx.2.2.2.2; omega)]
    exact h5 d d0 (by have := gx.2.2.2.2; omega)
  · refine mo_geo_gx ⟨fun i a b => ?_, fun i a b => ?_, ?_, ?_, ?_⟩ (h7 r r0 r1) <;> unfold mo_mx
    · rw [if_pos (by omega), if_pos (by omega)]
    · rw [if_neg (by omega), if_neg (by omega)]
      exact gx.2.1 i a b
    · rw [if_neg (by omega), if_neg (by omega)]
      exact gx.2.2.1
    · rw [if_neg (by omega), if_neg (by omega)]
      exact gx.2.2.2.1
    · rw [if_neg (by omega), if_neg (by omega)]
      exact gx.2.2.2.2
/-- what neither geometry nor laws read may change -/
theorem mo_ok_gx {k k' im has l : Int → Int} {u : Int} (hk : mo_ok k im has l u) (gx : mo_gx k k') (hlw : mo_lw k') : mo_ok k' im has l u := by
  obtain ⟨⟨h1, h2, h3, h4, h5⟩, h6, h7⟩ := hk
  have m9 := h2.1
  have e69 := gx.2.2.2.2
  refine ⟨⟨hlw, mo_geo_gx gx h2, by rw [gx.2.2.1]; exact h3, by rw [gx.2.2.2.1]; exact h4, fun d d0 d1 => ?_⟩, h6, fun r r0 r1 => ?_⟩
  · rw [gx.2.1 (29 + d) (by omega) (by omega)]
    exact h5 d d0 (by omega)
  · refine mo_geo_gx ⟨fun i a b => ?_, fun i a b => ?_, ?_, ?_, ?_⟩ (h7 r r0 r1) <;> unfold mo_mx
    · rw [if_pos (by omega), if_pos (by omega)]
    · rw [if_neg (by omega), if_neg (by omega)]
      exact gx.2.1 i a b
    · rw [if_neg (by omega), if_neg (by omega)]
      exact gx.2.2.1
    · rw [if_neg (by omega), if_neg (by omega)]
      exact gx.2.2.2.1
    · rw [if_neg (by omega), if_neg (by omega)]
      exact gx.2.2.2.2
theorem mo_gx_u {k : Int → Int} {i v : Int} (h : i < 9 ∨ i = 27 ∨ i = 28 ∨ (38 ≤ i ∧ i < 67) ∨ 70 ≤ i) : mo_gx k (mo_u k i v) := ⟨fun _ _ _ => mo_un (by omega), fun _ _ _ => mo_un (by omega), mo_un (by omega), mo_un (by omega), mo_un (by omega)⟩
theorem mo_lw_u {k : Int → Int} {i v : Int} (hk : mo_lw k) (h : i < 71) : mo_lw (mo_u k i v) := mo_lw_ext (fun _ _ _ => mo_un (by omega)) hk
theorem mo_lw_f {k : Int → Int} {v : Int} (hk : mo_lw k) (h : v < k 71) : mo_lw (mo_u k 72 v) := by
  obtain ⟨h1, h2, h3⟩ := hk
  have e : ∀ i, i ≠ 72 → mo_u k 72 v i = k i := fun i q => mo_un q
  refine ⟨by rw [mo_us rfl, e 71 (by omega)]; exact h, by rw [e 71 (by omega)]; exact h2, fun t t0 t1 => ?_⟩
  rw [e 71 (by omega)] at t1
  rw [e (73 + t) (by omega)]
  obtain ⟨w1, w2⟩ := h3 t t0 t1
  refine ⟨w1, ?_⟩
  have ef : mo_tf (mo_u k 72 v) (80 + 400 * t) (k (73 + t)) = mo_tf k (80 + 400 * t) (k (73 + t)) := by
    funext i
    unfold mo_tf
    by_cases w : 0 ≤ i ∧ i < k (73 + t)
    · rw [if_pos w, if_pos w]
      exact e _ (by omega)
    · rw [if_neg w, if_neg w]
  rw [ef]
  exact w2
end MO7
end
section
section MO8
def mo_okz (k im has : Int → Int) : Prop := mo_kg k ∧ ∀ q, 0 ≤ q → q ≤ 1 → has q = 1 → mo_kg (fun i => im (5680 * q + i))
/-- all but what can be undone -/
def th_RZ (a : Nat) (G : th_G) (Γ : th_Ga) (H : Heap) : Prop := th_RC G Γ H ∧ mo_okz (mo_v G H a 2) (mo_v G H a 3) (mo_v G H a 4)
theorem th_NZ {a : Nat} {G : th_G} {Γ : th_Ga} {H : Heap} (h : th_RN a G Γ H) : th_RZ a G Γ H := ⟨h.1, h.2.1, h.2.2.1⟩
theorem th_ZK {a : Nat} {G : th_G} {Γ : th_Ga} {H : Heap} (h : th_RZ a G Γ H) : th_RK a G Γ H := ⟨h.1, h.2.1⟩
theorem th_ZN {a : Nat} {G : th_G} {Γ : th_Ga} {H : Heap} (h : th_RZ a G Γ H) (h0 : mo_f G H a 33 = 0) : th_RN a G Γ H := ⟨h.1, h.2.1, h.2.2, fun r r0 r1 => by omega⟩
theorem th_RZ_c {a : Nat} {G : th_G} {Γ : th_Ga} {H H1 : Heap} {L : List (Nat × Nat)} (h1 : th_RC G Γ H1) (h : th_RZ a G Γ H) (hI : th_I G Γ H1) (ha : Γ a = (46, 0)) (hF : th_F G Γ L H H1) (hL : (th_in L 46 2 = false ∧ th_in L 48 0 = false) ∧ (th_in L 46 3 = false ∧ th_in L 49 0 = false) ∧ (th_in L 46 4 = false ∧ th_in L 50 0 = false)) : th_RZ a G Γ H1 := by
  refine ⟨h1, ?_⟩
  rw [mo_v_F (r := 48) hI hF ha rfl ro_48 hL.1.1 hL.1.2, mo_v_F (r := 49) hI hF ha rfl ro_49 hL.2.1.1 hL.2.1.2, mo_v_F (r := 50) hI hF ha rfl ro_50 hL.2.2.1 hL.2.2.2]
  exact h.2
theorem th_RZ_F {a : Nat} {G : th_G} {Γ : th_Ga} {H H1 : Heap} {L : List (Nat × Nat)} (hI : th_I G Γ H1) (h : th_RZ a G Γ H) (ha : Γ a = (46, 0)) (hF : th_F G Γ L H H1) (hT : th_T Γ H H1) (hL : L.all (fun q => !th_RCs.contains q) = true ∧ (th_in L 46 2 = false ∧ th_in L 48 0 = false) ∧ (th_in L 46 3 = false ∧ th_in L 49 0 = false) ∧ (th_in L 46 4 = false ∧ th_in L 50 0 = false)) : th_RZ a G Γ H1 := th_RZ_c (th_RC_F hI h.1 hF hT hL.1) h hI ha hF hL.2
theorem mo_kg_gx {k k' : Int → Int} (hk : mo_kg k) (gx : mo_gx k k') (hlw : mo_lw k') : mo_kg k' := by
  obtain ⟨h1, h2, h3, h4, h5⟩ := hk
  have m9 := h2.1
  have e69 := gx.2.2.2.2
  refine ⟨hlw, mo_geo_gx gx h2, by rw [gx.2.2.1]; exact h3, by rw [gx.2.2.2.1]; exact h4, fun d d0 d1 => ?_⟩
  rw [gx.2.1 (29 + d) (by omega) (by omega)]
  exact h5 d d0 (by omega)
theorem mo_kg_hall {k : Int → Int} {w h : Int} (hk : mo_kg k) (w1 : 1 ≤ w) (h1 : 1 ≤ h) (hl : ∀ c, 0 ≤ c → c < k 69 → k (9 + c) = -1) : mo_kg (mo_u (mo_u k 67 w) 68 h) := by
  obtain ⟨a1, a2, a3, a4, a5⟩ := hk
  have m9 := a2.1
  have e : ∀ i, i ≠ 67 → i ≠ 68 → mo_u (mo_u k 67 w) 68 h i = k i := fun i p q => by rw [mo_un q, mo_un p]
  have e69 := e 69 (by omega) (by omega)
  refine ⟨mo_lw_u (mo_lw_u a1 (by omega)) (by omega), mo_geo_0 (by omega) (fun c c0 c1 => ?_), ?_, by rw [mo_us rfl]; exact h1, fun c c0 c1 => ?_⟩
  · rw [e _ (by omega) (by omega)]
    exact hl c c0 (by omega)
  · rw [mo_un (by omega), mo_us rfl]
    exact w1
  · rw [e _ (by omega) (by omega)]
    exact a5 c c0 (by omega)
/-- what adds makes of the row k -/
def mo_ad (k : Int → Int) (c s q p : Int) : Int → Int := mo_u (mo_u (mo_u (mo_u (mo_u (mo_u k (29 + c) s) (38 + c) q) (0 + c) p) (9 + c) (-1)) (18 + c) (-1)) 69 (c + 1)
theorem mo_kg_ad {k : Int → Int} {c s q p : Int} (hk : mo_kg k) (hc : k 69 = c) (c0 : 0 ≤ c) (c1 : c < 9) (s1 : 1 ≤ s) : mo_kg (mo_ad k c s q p) := by
  obtain ⟨a1, a2, a3, a4, a5⟩ := hk
  have e : ∀ i, i ≠ 29 + c → i ≠ 38 + c → i ≠ 0 + c → i ≠ 9 + c → i ≠ 18 + c → i ≠ 69 → mo_ad k c s q p i = k i := fun i x1 x2 x3 x4 x5 x6 => by
    unfold mo_ad
    rw [mo_un x6, mo_un x5, mo_un x4, mo_un x3, mo_un x2, mo_un x1]
  have e69 : mo_ad k c s q p 69 = c + 1 := mo_us rfl
  have ex : mo_ad k c s q p (9 + c) = -1 := by
    unfold mo_ad
    rw [mo_un (by omega), mo_un (by omega), mo_us rfl]
  refine ⟨mo_lw_ext (fun i x y => e i (by omega) (by omega) (by omega) (by omega) (by omega) (by omega)) a1, mo_geo_ad a2 hc c0 c1 e69 ex (fun i x y z1 z2 z3 z4 => e i z3 z4 (by omega) z1 z2 (by omega)), by rw [e 67 (by omega) (by omega) (by omega) (by omega) (by omega) (by omega)]; exact a3, by rw [e 68 (by omega) (by omega) (by omega) (by omega) (by omega) (by omega)]; exact a4, fun d d0 d1 => ?_⟩
  by_cases w : d = c
  · subst w
    unfold mo_ad
    rw [mo_un (by omega), mo_un (by omega), mo_un (by omega), mo_un (by omega), mo_un (by omega), mo_us rfl]
    exact s1
  · rw [e _ (by omega) (by omega) (by omega) (by omega) (by omega) (by omega)]
    exact a5 d d0 (by omega)
theorem th_esk1 (i : Nat) : (th_esk i).1 = 0 := by
  unfold th_esk th_any; (repeat' split) <;> rfl
theorem th_esi1 (i : Nat) : (th_esi i).1 = 0 := th_esk1 _
theorem mo_esi {k i : Int} (h0 : 0 ≤ i) (h1 : i < 5680) (k0 : 0 ≤ k) (z : Int) (hz : z = 5680 * k + i) : th_esi z.toNat = th_esk i.toNat := by
  unfold th_esi
  congr 1
  omega
theorem mo_ok_u {k im has l : Int → Int} {u i v : Int} (hk : mo_ok k im has l u) (h : i < 9 ∨ i = 27 ∨ i = 28 ∨ (38 ≤ i ∧ i < 67) ∨ i = 70) : mo_ok (mo_u k i v) im has l u := mo_ok_gx hk (mo_gx_u (by omega)) (mo_lw_u hk.1.1 (by omega))
theorem mo_ok_f {k im has l : Int → Int} {u v : Int} (hk : mo_ok k im has l u) (h : v < k 71) : mo_ok (mo_u k 72 v) im has l u := mo_ok_gx hk (mo_gx_u (by omega)) (mo_lw_f hk.1.1 h)
theorem mo_ok_im {k im im' has l : Int → Int} {u q : Int} (hk : mo_ok k im has l u) (q0 : 0 ≤ q) (q1 : q ≤ 1) (h : ∀ z, im' z = if 5680 * q ≤ z ∧ z < 5680 * q + 5680 then k (z - 5680 * q) else im z) : mo_ok k im' (mo_u has q 1) l u := by
  refine ⟨hk.1, fun r r0 r1 hr => ?_, hk.2.2⟩
  by_cases e : r = q
  · subst e
    refine mo_kg_ext (fun i a b => ?_) hk.1
    show im' (5680 * r + i) = k i
    rw [h, if_pos (by omega)]
    congr 1
    omega
  · rw [mo_un e] at hr
    refine mo_kg_ext (fun i a b => ?_) (hk.2.1 r r0 r1 hr)
    show im' (5680 * r + i) = im (5680 * r + i)
    rw [h, if_neg (by omega)]
theorem mo_bare {k : Int → Int} {r : Int} (hk : mo_kg k) (hm : 0 ≤ k 69) (hr : r = k 67 * k 68 - mo_ss k (k 69).toNat) : 0 ≤ r := by
  obtain ⟨-, h2, h3, h4, -⟩ := hk
  have := mo_ss_le h2 (by omega) (by omega) (n := (k 69).toNat) (by omega)
  omega
theorem mo_dr {x : Int32} {a b c d : Int64} {z : Int32} (h0 : 0 ≤ x.toInt) (h1 : x.toInt ≤ 1000002) (e1 : a = x.toInt64) (e2 : b = 1103 * a) (e3 : c = b + 12345) (e4 : d = c - c / 1000003 * 1000003) (e5 : z = d.toInt32) : 0 ≤ z.toInt ∧ z.toInt ≤ 1000002 := by
  have a1 : a.toInt = x.toInt := ti_i2l e1
  obtain ⟨n, n1, n2⟩ : ∃ n : Nat, n ≤ 1000002 ∧ a = lN n := by
    refine ⟨x.toInt.toNat, by omega, Int64.toInt_inj.mp ?_⟩
    rw [a1, lN_toInt (by omega)]
    omega
  have b1 : b = lN (1103 * n) := by
    rw [e2, n2]
    exact lN_mul 1103 n
  have c1 : c = lN (1103 * n + 12345) := by
    rw [e3, b1]
    exact lN_add (1103 * n) 12345
  have d1 : d = lN ((1103 * n + 12345) % 1000003) := by
    rw [e4, c1]
    exact pk_lRem (a := 1103 * n + 12345) (b := 1000003) (by omega) (by omega) (by omega)
  have z1 : z = nI ((1103 * n + 12345) % 1000003) := by
    rw [e5, d1]
    exact lN_i _
  have q : (1103 * n + 12345) % 1000003 < 1000003 := Nat.mod_lt _ (by omega)
  rw [z1, nI_toInt (by omega)]
  omega
end MO8
set_option maxHeartbeats 4000000 in
set_option maxRecDepth 100000 in
theorem c_X12_good (l : Launch) (G : th_G) (Γ : th_Ga) (H0 : Heap) (hI : th_I G Γ H0) (hR : th_RC G Γ H0) (hU : dv_U Γ) (a0 : Nat) (h0 : Γ a0 = (46, 0)) (p1 : Int32) : Met l yX12_good (.code yX12_good cX12_good 2 (some FieldType.int) :: th_tb) ({ frames := 0, cells := 0, slots := 0, locals := 0 } : Room) (th_P [.ref a0, .int p1] G H0) (th_Q (fun (v : Option Value) (H1 : Heap) => ∃ r : Int32, v = some (.int r) ∧ (r.toInt = p1.toInt) ∧ th_I G Γ H1 ∧ th_F G Γ [(46, 0)] H0 H1 ∧ th_RC G Γ H1 ∧ (f_X12_good (dv G Γ H0) (a0 : Int) p1.toInt = (dv G Γ H1, r.toInt))) G) 0 0 (fun q => G.1.2.2 ≤ q) := by
  refine th_met RX12 (by decide) rfl (Nat.le_of_ble_eq_true rfl) ?_
  intro p e s m below meth c hC hH hr hlocks hnm ls hl
  have hx := hC.1
  have hb := hC.2.1
  have hB : th_B G Γ Γ [(46, 0)] H0 H0 [] := ⟨hI, va_S.rf, th_F_rf⟩
  have hl : lv_has ls 2 [(0, .ref a0), (1, .int p1)] := hl
  have lp1 := ti_lo p1; have up1 := ti_hi p1
  obtain ⟨F, hF0⟩ : ∃ F, F = f_X12_good (dv G Γ H0) ((a0 : Int)) (p1.toInt) := ⟨_, rfl⟩
  have hF := hF0.trans (f_X12_good.eq_1 (dv G Γ H0) ((a0 : Int)) (p1.toInt))
  refine lv_aload_n hx hb gX12_good_0.1 rfl (lv_at hl 0 rfl) ?_
  refine lv_iconst (v := 0) hx hb gX12_good_0.2.1 (by decide) ?_
  refine th_put hC cf_X12 hB h0 (Or.inl h0) ro_46 rfl (j := 0) rfl th_sIa (by decide) rfl rfl rfl kf_X12_3 gX12_good_0.2.2.1 (fun H2 locs hB hf hst2 => ?_)
  have hR := th_RC_F hB.1 hR hf (th_T_s h0 ro_46 hst2) (by decide)
  replace hF := hF.trans (dv_bn (dv_putI hB.1 h0 ro_46 (j := 0) rfl (th_apart hC cf_X12) hst2 tk_0 (by decide)))
  refine lv_iload_n hx hb gX12_good_0.2.2.2.1 rfl (lv_at hl 1 rfl) ?_
  exact th_iret hC hH hr hlocks rfl hB.2.1 ⟨_, rfl, by intros; omega, hB.1, hB.2.2, hR, (hF0.symm.trans hF)⟩ gX12_good_0.2.2.2.2

set_option maxHeartbeats 4000000 in
set_option maxRecDepth 100000 in
theorem c_X12_refuses (l : Launch) (G : th_G) (Γ : th_Ga) (H0 : Heap) (hI : th_I G Γ H0) (hR : th_RC G Γ H0) (hU : dv_U Γ) (a0 : Nat) (h0 : Γ a0 = (46, 0)) (p1 : Int32) (f1 : (-6) ≤ p1.toInt) (g1 : p1.toInt ≤ (-1)) : Met l yX12_refuses (.code yX12_refuses cX12_refuses 2 (some FieldType.int) :: th_tb) ({ frames := 0, cells := 0, slots := 0, locals := 0 } : Room) (th_P [.ref a0, .int p1] G H0) (th_Q (fun (v : Option Value) (H1 : Heap) => ∃ r : Int32, v = some (.int r) ∧ (r.toInt = p1.toInt) ∧ th_I G Γ H1 ∧ th_F G Γ [(47, 0), (46, 0)] H0 H1 ∧ th_RC G Γ H1 ∧ (f_X12_refuses (dv G Γ H0) (a0 : Int) p1.toInt = (dv G Γ H1, r.toInt))) G) 0 0 (fun q => G.1.2.2 ≤ q) := by
  refine th_met RX12 (by decide) rfl (Nat.le_of_ble_eq_true rfl) ?_
  intro p e s m below meth c hC hH hr hlocks hnm ls hl
  have hx := hC.1
  have hb := hC.2.1
  have hB : th_B G Γ Γ [(47, 0), (46, 0)] H0 H0 [] := ⟨hI, va_S.rf, th_F_rf⟩
  have hl : lv_has ls 2 [(0, .ref a0), (1, .int p1)] := hl
  have lp1 := ti_lo p1; have up1 := ti_hi p1
  obtain ⟨F, hF0⟩ : ∃ F, F = f_X12_refuses (dv G Γ H0) ((a0 : Int)) (p1.toInt) := ⟨_, rfl⟩
  have hF := hF0.trans (f_X12_refuses.eq_1 (dv G Γ H0) ((a0 : Int)) (p1.toInt))
  refine lv_aload_n hx hb gX12_refuses_0.1 rfl (lv_at hl 0 rfl) ?_
  refine lv_iload_n hx hb gX12_refuses_0.2.1 rfl (lv_at hl 1 rfl) ?_
  refine th_put hC cf_X12 hB h0 (Or.inl h0) ro_46 rfl (j := 0) rfl th_sIa (by decide) rfl rfl rfl kf_X12_3 gX12_refuses_0.2.2.1 (fun H2 locs hB hf hst2 => ?_)
  have hR := th_RC_F hB.1 hR hf (th_T_s h0 ro_46 hst2) (by decide)
  replace hF := hF.trans (dv_bn (dv_putI hB.1 h0 ro_46 (j := 0) rfl (th_apart hC cf_X12) hst2 (Eq.refl _) (by decide)))
  refine lv_aload_n hx hb gX12_refuses_0.2.2.2.1 rfl (lv_at hl 0 rfl) ?_
  refine th_getO (j := 1) (r2 := 47) hC cf_X12 hB.1 h0 ro_46 rfl rfl kf_X12_7 gX12_refuses_0.2.2.2.2.1 (fun b1 mb1 hb1 => ?_)
  refine lv_iload_n hx hb gX12_refuses_0.2.2.2.2.2.1 rfl (lv_at hl 1 rfl) ?_
  refine lv_ineg hx hb gX12_refuses_0.2.2.2.2.2.2.1 ?_
  refine lv_topi (fun x2 ex2 => ?_)
  replace hF := hF.trans (dv_bn (dv_neg_e (Eq.refl _) ex2))
  have fx2 := ti_neg (x := p1) (Eq.refl _) (by omega) (by omega)
  rw [← ex2] at fx2
  refine lv_dup2_11 hx hb gX12_refuses_0.2.2.2.2.2.2.2 rfl rfl ?_
  refine th_ialdF hC hB.1 hb1 ro_47 rfl (Eq.refl _) (by omega) (by omega) rfl gX12_refuses_1.1 (fun x3 mx3 lx3 ux3 => ?_)
  replace hF := hF.trans (dv_bn (dv_aldI hB.1 hU hb1 ow_47 (z := x2.toInt) mx3 (by omega)))
  refine lv_iconst (v := 1) hx hb gX12_refuses_1.2.1 (by decide) ?_
  refine lv_iadd hx hb gX12_refuses_1.2.2.1 ?_
  refine lv_topi (fun x4 ex4 => ?_)
  have lx4 := ti_lo x4; have ux4 := ti_hi x4
  replace hF := hF.trans (dv_bn (dv_add_e (Eq.refl _) tk_1 ex4))
  have hIo := hB.1
  refine th_iastF hC hB hb1 (Or.inl hb1) ro_47 rfl (by decide) (Eq.refl _) (by omega) (by omega) th_sIa gX12_refuses_1.2.2.2.1 (fun H15 locs hB hf15 hst15 => ?_)
  have hf := hf15
  have hR := th_RC_F hB.1 hR hf (th_T_s hb1 ro_47 hst15) (by decide)
  replace hF := hF.trans (dv_bn (dv_stoI hIo hB.1 hU hb1 ow_47 (i := x2.toInt) hst15 (Eq.refl _) (by omega)))
  refine lv_iload_n hx hb gX12_refuses_1.2.2.2.2.1 rfl (lv_at hl 1 rfl) ?_
  exact th_iret hC hH hr hlocks rfl hB.2.1 ⟨_, rfl, by intros; omega, hB.1, hB.2.2, hR, (hF0.symm.trans hF)⟩ gX12_refuses_1.2.2.2.2.2

set_option maxHeartbeats 4000000 in
set_option maxRecDepth 100000 in
theorem c_X12_goodOr (l : Launch) (G : th_G) (Γ : th_Ga) (H0 : Heap) (hI : th_I G Γ H0) (hR : th_RC G Γ H0) (hU : dv_U Γ) (a0 : Nat) (h0 : Γ a0 = (46, 0)) (p1 : Int32) (f1 : (-6) ≤ p1.toInt) : Met l yX12_goodOr (.code yX12_goodOr cX12_goodOr 2 (some FieldType.int) :: th_tb) ({ frames := 1, cells := 0, slots := 0, locals := 21 } : Room) (th_P [.ref a0, .int p1] G H0) (th_Q (fun (v : Option Value) (H1 : Heap) => ∃ r : Int32, v = some (.int r) ∧ th_I G Γ H1 ∧ th_F G Γ [(47, 0), (46, 0)] H0 H1 ∧ th_RC G Γ H1 ∧ (f_X12_goodOr (dv G Γ H0) (a0 : Int) p1.toInt = (dv G Γ H1, r.toInt))) G) 0 0 (fun q => G.1.2.2 ≤ q) := by
  refine th_met RX12 (by decide) rfl (Nat.le_of_ble_eq_true rfl) ?_
  intro p e s m below meth c hC hH hr hlocks hnm ls hl
  have hx := hC.1
  have hb := hC.2.1
  have hB : th_B G Γ Γ [(47, 0), (46, 0)] H0 H0 [] := ⟨hI, va_S.rf, th_F_rf⟩
  have hl : lv_has ls 2 [(0, .ref a0), (1, .int p1)] := hl
  have lp1 := ti_lo p1; have up1 := ti_hi p1
  obtain ⟨F, hF0⟩ : ∃ F, F = f_X12_goodOr (dv G Γ H0) ((a0 : Int)) (p1.toInt) := ⟨_, rfl⟩
  have hF := hF0.trans (f_X12_goodOr.eq_1 (dv G Γ H0) ((a0 : Int)) (p1.toInt))
  refine lv_iload_n hx hb gX12_goodOr_0.1 rfl (lv_at hl 1 rfl) ?_
  refine tr_if_ge (tgt := 12) hx hb gX12_goodOr_0.2.1 (by decide) (Eq.refl _) (fun c1 => ?_) (fun c1 => ?_)
  · replace hF := hF.trans (if_pos c1)
    refine lv_aload_n hx hb gX12_goodOr_0.2.2.2.2.2.2.1 rfl (lv_at hl 0 rfl) ?_
    refine lv_iload_n hx hb gX12_goodOr_0.2.2.2.2.2.2.2 rfl (lv_at hl 1 rfl) ?_
    refine th_call (th_runV (As := [.int p1]) (rest := []) hC mf_X12_good km_X12_14 im_X12_good se_X12_good (c_X12_good l G Γ H0 hB.1 hR hU a0 h0 p1) rfl rfl ⟨Nat.le_of_ble_eq_true rfl, Nat.le_of_ble_eq_true rfl⟩ hB.1 h0 ro_46 rfl rfl hl.1 rfl (Nat.le_of_ble_eq_true rfl) gX12_goodOr_1.1 ⟨Nat.le_refl _, Nat.le_refl _⟩) hB.2.1 (fun v14 H14 locs hp hz hS => ?_)
    obtain ⟨x1, rfl, q14_0, hI1, hf, hR, z14_0⟩ := hp
    have hB := th_B_c hB hI1 hS hf (by decide)
    replace hF := hF.trans (dv_bn2 (z14_0))
    refine W.eq (g2 := F0 m 17 ls [.int x1]) rfl ?_
    exact th_iret hC hH hr hlocks rfl hB.2.1 ⟨_, rfl, hB.1, hB.2.2, hR, (hF0.symm.trans hF)⟩ gX12_goodOr_1.2
  · replace hF := hF.trans (if_neg (Int.not_le.mpr c1))
    refine lv_aload_n hx hb gX12_goodOr_0.2.2.1 rfl (lv_at hl 0 rfl) ?_
    refine lv_iload_n hx hb gX12_goodOr_0.2.2.2.1 rfl (lv_at hl 1 rfl) ?_
    refine th_call (th_runV (As := [.int p1]) (rest := []) hC mf_X12_refuses km_X12_109 im_X12_refuses se_X12_refuses (c_X12_refuses l G Γ H0 hB.1 hR hU a0 h0 p1 (by omega) (by omega)) rfl rfl ⟨Nat.le_of_ble_eq_true rfl, Nat.le_of_ble_eq_true rfl⟩ hB.1 h0 ro_46 rfl rfl hl.1 rfl (Nat.le_of_ble_eq_true rfl) gX12_goodOr_0.2.2.2.2.1 ⟨Nat.le_refl _, Nat.le_refl _⟩) hB.2.1 (fun v6 H6 locs hp hz hS => ?_)
    obtain ⟨x2, rfl, q6_0, hI1, hf, hR, z6_0⟩ := hp
    have hB := th_B_c hB hI1 hS hf (by decide)
    replace hF := hF.trans (dv_bn2 (z6_0))
    refine W.eq (g2 := F0 m 9 ls [.int x2]) rfl ?_
    refine lv_goto (tgt := 17) hx hb gX12_goodOr_0.2.2.2.2.2.1 (by decide) ?_
    exact th_iret hC hH hr hlocks rfl hB.2.1 ⟨_, rfl, hB.1, hB.2.2, hR, (hF0.symm.trans hF)⟩ gX12_goodOr_1.2

set_option maxHeartbeats 4000000 in
set_option maxRecDepth 100000 in
theorem c_X12_settled (l : Launch) (G : th_G) (Γ : th_Ga) (H0 : Heap) (hI : th_I G Γ H0) (hR : th_RC G Γ H0) (hU : dv_U Γ) (a0 : Nat) (h0 : Γ a0 = (46, 0)) (p1 : Int32) : Met l yX12_settled (.code yX12_settled cX12_settled 2 (some FieldType.int) :: th_tb) ({ frames := 1, cells := 0, slots := 0, locals := 21 } : Room) (th_P [.ref a0, .int p1] G H0) (th_Q (fun (v : Option Value) (H1 : Heap) => ∃ r : Int32, v = some (.int r) ∧ (r.toInt = p1.toInt) ∧ th_I G Γ H1 ∧ th_F G Γ [(46, 0), (46, 33)] H0 H1 ∧ th_RC G Γ H1 ∧ (mo_f G H1 a0 33 = 0) ∧ (f_X12_settled (dv G Γ H0) (a0 : Int) p1.toInt = (dv G Γ H1, r.toInt))) G) 0 0 (fun q => G.1.2.2 ≤ q) := by
  refine th_met RX12 (by decide) rfl (Nat.le_of_ble_eq_true rfl) ?_
  intro p e s m below meth c hC hH hr hlocks hnm ls hl
  have hx := hC.1
  have hb := hC.2.1
  have hB : th_B G Γ Γ [(46, 0), (46, 33)] H0 H0 [] := ⟨hI, va_S.rf, th_F_rf⟩
  have hl : lv_has ls 2 [(0, .ref a0), (1, .int p1)] := hl
  have lp1 := ti_lo p1; have up1 := ti_hi p1
  obtain ⟨F, hF0⟩ : ∃ F, F = f_X12_settled (dv G Γ H0) ((a0 : Int)) (p1.toInt) := ⟨_, rfl⟩
  have hF := hF0.trans (f_X12_settled.eq_1 (dv G Γ H0) ((a0 : Int)) (p1.toInt))
  refine lv_aload_n hx hb gX12_settled_0.1 rfl (lv_at hl 0 rfl) ?_
  refine lv_iconst (v := 0) hx hb gX12_settled_0.2.1 (by decide) ?_
  refine th_put hC cf_X12 hB h0 (Or.inl h0) ro_46 rfl (j := 33) rfl (th_sI (by decide) (by decide)) (by decide) rfl rfl rfl kf_X12_11 gX12_settled_0.2.2.1 (fun H2 locs hB hf hst2 => ?_)
  have hR := th_RC_F hB.1 hR hf (th_T_s h0 ro_46 hst2) (by decide)
  replace hF := hF.trans (dv_bn (dv_putI hB.1 h0 ro_46 (j := 33) rfl (th_apart hC cf_X12) hst2 tk_0 (by decide)))
  have fp2 : mo_f G H2 a0 33 = 0 := (mo_f_St hst2).trans tk_0
  refine lv_aload_n hx hb gX12_settled_0.2.2.2.1 rfl (lv_at hl 0 rfl) ?_
  refine lv_iload_n hx hb gX12_settled_0.2.2.2.2.1 rfl (lv_at hl 1 rfl) ?_
  refine th_call (th_runV (As := [.int p1]) (rest := []) hC mf_X12_good km_X12_14 im_X12_good se_X12_good (c_X12_good l G Γ H2 hB.1 hR hU a0 h0 p1) rfl rfl ⟨Nat.le_of_ble_eq_true rfl, Nat.le_of_ble_eq_true rfl⟩ hB.1 h0 ro_46 rfl rfl hl.1 rfl (Nat.le_of_ble_eq_true rfl) gX12_settled_0.2.2.2.2.2.1 ⟨Nat.le_refl _, Nat.le_refl _⟩) hB.2.1 (fun v7 H7 locs hp hz hS => ?_)
  obtain ⟨x1, rfl, q7_0, hI1, hf, hR, z7_0⟩ := hp
  have hB := th_B_c hB hI1 hS hf (by decide)
  have fv_H7_33 : mo_f G H7 a0 33 = mo_f G H2 a0 33 := mo_f_F hf h0 (by decide) (by decide)
  replace hF := hF.trans (dv_bn2 (z7_0))
  refine W.eq (g2 := F0 m 10 ls [.int x1]) rfl ?_
  exact th_iret hC hH hr hlocks rfl hB.2.1 ⟨_, rfl, by intros; omega, hB.1, hB.2.2, hR, by omega, (hF0.symm.trans hF)⟩ gX12_settled_0.2.2.2.2.2.2

set_option maxHeartbeats 4000000 in
set_option maxRecDepth 100000 in
theorem c_X12_small (l : Launch) (G : th_G) (Γ : th_Ga) (H0 : Heap) (hI : th_I G Γ H0) (hU : dv_U Γ) (p1 : Int64) : Met l yX12_small (.code yX12_small cX12_small 2 (some FieldType.int) :: th_tb) ({ frames := 0, cells := 0, slots := 0, locals := 0 } : Room) (th_P [.long p1] G H0) (th_Q (fun (v : Option Value) (H1 : Heap) => ∃ r : Int32, v = some (.int r) ∧ (-1) ≤ r.toInt ∧ r.toInt ≤ 1000000 ∧ (f_X12_small (dv G Γ H0) p1.toInt = (r.toInt, ())) ∧ H0 = H1) G) 0 0 (fun q => G.1.2.2 ≤ q) := by
  refine th_met RX12 (by decide) rfl (Nat.le_of_ble_eq_true rfl) ?_
  intro p e s m below meth c hC hH hr hlocks hnm ls hl
  have hx := hC.1
  have hb := hC.2.1
  have hB : th_B G Γ Γ [] H0 H0 [] := ⟨hI, va_S.rf, th_F_rf⟩
  have hl : lv_has ls 2 [(0, .long p1)] := hl
  obtain ⟨F, hF0⟩ : ∃ F, F = f_X12_small (dv G Γ H0) (p1.toInt) := ⟨_, rfl⟩
  have hF := hF0.trans (f_X12_small.eq_1 (dv G Γ H0) (p1.toInt))
  refine lv_lload_n hx hb gX12_small_0.1 rfl (lv_at hl 0 rfl) ?_
  have l0 : (0 : Int64).toInt = 0 := rfl
  have l1 : (1000000 : Int64).toInt = 1000000 := rfl
  refine lv_lconst (v := 0) hx hb gX12_small_0.2.1 rfl ?_
  refine tr_lcmp2 hx hb gX12_small_0.2.2.1 (fun x1 fx1 gx1 ix1 => ?_)
  replace hF := hF.trans (dv_bn (dv_lcmp_e (Eq.refl (p1.toInt)) (rfl : (0 : Int64).toInt = 0) fx1 ix1))
  refine tr_if_lt (tgt := 14) hx hb gX12_small_0.2.2.2.1 (by decide) (Eq.refl _) (fun c3 => ?_) (fun c3 => ?_)
  · replace hF := hF.trans (if_pos c3)
    refine lv_iconst (v := (-1)) hx hb gX12_small_1.1 (by decide) ?_
    refine lv_goto (tgt := 20) hx hb gX12_small_1.2.1 (by decide) ?_
    exact th_iret hC hH hr hlocks rfl hB.2.1 ⟨_, rfl, by decide, by decide, (hF0.symm.trans (hF.trans (by rw [tk_m1]))), rfl⟩ gX12_small_1.2.2.2.2
  · replace hF := hF.trans (if_neg (Int.not_lt.mpr c3))
    refine lv_lload_n hx hb gX12_small_0.2.2.2.2.1 rfl (lv_at hl 0 rfl) ?_
    refine lv_ldc2 (v := 1000000) hx hb hC.2.2.2.1 (hC.2.2.2.2.1 _ kw_1933) gX12_small_0.2.2.2.2.2.1 ?_
    refine tr_lcmp2 hx hb gX12_small_0.2.2.2.2.2.2.1 (fun x2 fx2 gx2 ix2 => ?_)
    replace hF := hF.trans (dv_bn (dv_lcmp_e (Eq.refl (p1.toInt)) (rfl : (1000000 : Int64).toInt = 1000000) fx2 ix2))
    refine tr_if_le (tgt := 18) hx hb gX12_small_0.2.2.2.2.2.2.2 (by decide) (Eq.refl _) (fun c11 => ?_) (fun c11 => ?_)
    · replace hF := hF.trans (if_pos c11)
      refine lv_lload_n hx hb gX12_small_1.2.2.1 rfl (lv_at hl 0 rfl) ?_
      refine lv_l2i hx hb gX12_small_1.2.2.2.1 rfl ?_
      refine lv_topi (fun x3 ex3 => ?_)
      have lx3 := ti_lo x3; have ux3 := ti_hi x3
      replace hF := hF.trans (dv_bn (dv_l2i_e (Eq.refl (p1.toInt)) ex3))
      have f19 := ti_l2i ex3 (by omega) (by omega)
      exact th_iret hC hH hr hlocks rfl hB.2.1 ⟨_, rfl, by omega, by omega, (hF0.symm.trans hF), rfl⟩ gX12_small_1.2.2.2.2
    · replace hF := hF.trans (if_neg (Int.not_le.mpr c11))
      refine lv_iconst (v := (-1)) hx hb gX12_small_1.1 (by decide) ?_
      refine lv_goto (tgt := 20) hx hb gX12_small_1.2.1 (by decide) ?_
      exact th_iret hC hH hr hlocks rfl hB.2.1 ⟨_, rfl, by decide, by decide, (hF0.symm.trans (hF.trans (by rw [tk_m1]))), rfl⟩ gX12_small_1.2.2.2.2

set_option maxHeartbeats 4000000 in
set_option maxRecDepth 100000 in
theorem c_X12_end (l : Launch) (G : th_G) (Γ : th_Ga) (H0 : Heap) (hI : th_I G Γ H0) (hR : th_RC G Γ H0) (hU : dv_U Γ) (a0 : Nat) (h0 : Γ a0 = (46, 0)) (p1 : Int32) : Met l yX12_end (.code yX12_end cX12_end 2 (some FieldType.int) :: th_tb) ({ frames := 1, cells := 0, slots := 0, locals := 22 } : Room) (th_P [.ref a0, .int p1] G H0) (th_Q (fun (v : Option Value) (H1 : Heap) => ∃ r : Int32, v = some (.int r) ∧ th_I G Γ H1 ∧ th_F G Γ [(46, 13)] H0 H1 ∧ th_RC G Γ H1 ∧ (f_X12_end (dv G Γ H0) (a0 : Int) p1.toInt = (dv G Γ H1, r.toInt))) G) 0 0 (fun q => G.1.2.2 ≤ q) := by
  refine th_met RX12 (by decide) rfl (Nat.le_of_ble_eq_true rfl) ?_
  intro p e s m below meth c hC hH hr hlocks hnm ls hl
  have hx := hC.1
  have hb := hC.2.1
  have hB : th_B G Γ Γ [(46, 13)] H0 H0 [] := ⟨hI, va_S.rf, th_F_rf⟩
  have hl : lv_has ls 2 [(0, .ref a0), (1, .int p1)] := hl
  have lp1 := ti_lo p1; have up1 := ti_hi p1
  obtain ⟨F, hF0⟩ : ∃ F, F = f_X12_end (dv G Γ H0) ((a0 : Int)) (p1.toInt) := ⟨_, rfl⟩
  have hF := hF0.trans (f_X12_end.eq_1 (dv G Γ H0) ((a0 : Int)) (p1.toInt))
  refine lv_iload_n hx hb gX12_end_0.1 rfl (lv_at hl 1 rfl) ?_
  refine lv_iconst (v := 0) hx hb gX12_end_0.2.1 (by decide) ?_
  refine lv_aload_n hx hb gX12_end_0.2.2.1 rfl (lv_at hl 0 rfl) ?_
  refine th_getI (j := 13) hC cf_X12 hB.1 h0 ro_46 rfl rfl kf_X12_169 gX12_end_0.2.2.2.1 (fun x1 mx1 lx1 ux1 => ?_)
  replace hF := hF.trans (dv_bn (dv_getI h0 ro_46 (j := 13) rfl mx1 (by decide)))
  refine th_call (th_runS (As := [.int p1, .int 0, .int x1]) (rest := []) hC mf_X12_lies km_X12_18 st_X12_lies (c_X12_lies l G Γ H0 hB.1 hU p1 0 x1) rfl rfl ⟨Nat.le_of_ble_eq_true rfl, Nat.le_of_ble_eq_true rfl⟩ rfl hl.1 rfl (Nat.le_of_ble_eq_true rfl) gX12_end_0.2.2.2.2.1 ⟨Nat.le_refl _, Nat.le_refl _⟩) hB.2.1 (fun v6 H6 locs hp hz hS => ?_)
  obtain ⟨x2, rfl, lx2, ux2, q6_0, q6_1, q6_2, rfl⟩ := hp
  have hB := th_B_s hB hS
  have w6_1 := tk_0
  have zf6 := q6_2
  rw [tk_0] at zf6
  replace hF := hF.trans (dv_bn2 (zf6))
  refine W.eq (g2 := F0 m 9 ls [.int x2]) rfl ?_
  refine tr_if_ne (tgt := 14) hx hb gX12_end_0.2.2.2.2.2.1 (by decide) (Eq.refl _) (fun c9 => ?_) (fun c9 => ?_)
  · replace hF := hF.trans (if_pos c9)
    refine lv_aload_n hx hb gX12_end_1.1 rfl (lv_at hl 0 rfl) ?_
    refine lv_iload_n hx hb gX12_end_1.2.1 rfl (lv_at hl 1 rfl) ?_
    refine th_put hC cf_X12 hB h0 (Or.inl h0) ro_46 rfl (j := 13) rfl (th_sI (by omega) (by omega)) (by decide) rfl rfl rfl kf_X12_169 gX12_end_1.2.2.1 (fun H16 locs hB hf hst16 => ?_)
    have hR := th_RC_F hB.1 hR hf (th_T_s h0 ro_46 hst16) (by decide)
    replace hF := hF.trans (dv_bn (dv_putI hB.1 h0 ro_46 (j := 13) rfl (th_apart hC cf_X12) hst16 (Eq.refl _) (by decide)))
    refine lv_iload_n hx hb gX12_end_1.2.2.2.1 rfl (lv_at hl 1 rfl) ?_
    exact th_iret hC hH hr hlocks rfl hB.2.1 ⟨_, rfl, hB.1, hB.2.2, hR, (hF0.symm.trans hF)⟩ gX12_end_1.2.2.2.2
  · replace hF := hF.trans (if_neg (not_not_intro c9))
    refine lv_iconst (v := (-1)) hx hb gX12_end_0.2.2.2.2.2.2.1 (by decide) ?_
    exact th_iret hC hH hr hlocks rfl hB.2.1 ⟨_, rfl, hB.1, hB.2.2, hR, (hF0.symm.trans (hF.trans (by rw [tk_m1])))⟩ gX12_end_0.2.2.2.2.2.2.2

set_option maxHeartbeats 4000000 in
set_option maxRecDepth 100000 in
theorem c_X12_feed (l : Launch) (G : th_G) (Γ : th_Ga) (H0 : Heap) (hI : th_I G Γ H0) (hR : th_RC G Γ H0) (hU : dv_U Γ) (a0 : Nat) (h0 : Γ a0 = (46, 0)) (p1 : Int32) (p2 : Int32) (p3 : Int32) (p4 : Int32) (p5 : Int32) : Met l yX12_feed (.code yX12_feed cX12_feed 7 (some FieldType.int) :: th_tb) ({ frames := 0, cells := 0, slots := 0, locals := 0 } : Room) (th_P [.ref a0, .int p1, .int p2, .int p3, .int p4, .int p5] G H0) (th_Q (fun (v : Option Value) (H1 : Heap) => ∃ r : Int32, v = some (.int r) ∧ th_I G Γ H1 ∧ th_F G Γ [(46, 13), (54, 0), (53, 0)] H0 H1 ∧ th_RC G Γ H1 ∧ (f_X12_feed (dv G Γ H0) (a0 : Int) p1.toInt p2.toInt p3.toInt p4.toInt p5.toInt = (dv G Γ H1, r.toInt))) G) 0 0 (fun q => G.1.2.2 ≤ q) := by
  refine th_met RX12 (by decide) rfl (Nat.le_of_ble_eq_true rfl) ?_
  intro p e s m below meth c hC hH hr hlocks hnm ls hl
  have hx := hC.1
  have hb := hC.2.1
  have hB : th_B G Γ Γ [(46, 13), (54, 0), (53, 0)] H0 H0 [] := ⟨hI, va_S.rf, th_F_rf⟩
  have hl : lv_has ls 7 [(0, .ref a0), (1, .int p1), (2, .int p2), (3, .int p3), (4, .int p4), (5, .int p5)] := hl
  have lp1 := ti_lo p1; have up1 := ti_hi p1
  have lp2 := ti_lo p2; have up2 := ti_hi p2
  have lp3 := ti_lo p3; have up3 := ti_hi p3
  have lp4 := ti_lo p4; have up4 := ti_hi p4
  have lp5 := ti_lo p5; have up5 := ti_hi p5
  obtain ⟨F, hF0⟩ : ∃ F, F = f_X12_feed (dv G Γ H0) ((a0 : Int)) (p1.toInt) (p2.toInt) (p3.toInt) (p4.toInt) (p5.toInt) := ⟨_, rfl⟩
  have hF := hF0.trans (f_X12_feed.eq_1 (dv G Γ H0) ((a0 : Int)) (p1.toInt) (p2.toInt) (p3.toInt) (p4.toInt) (p5.toInt))
  refine lv_aload_n hx hb gX12_feed_0.1 rfl (lv_at hl 0 rfl) ?_
  refine th_getI (j := 13) hC cf_X12 hB.1 h0 ro_46 rfl rfl kf_X12_169 gX12_feed_0.2.1 (fun x1 mx1 lx1 ux1 => ?_)
  replace hF := hF.trans (dv_bn (dv_getI h0 ro_46 (j := 13) rfl mx1 (by decide)))
  have fg2 : mo_f G H0 a0 13 = x1.toInt := mo_fat mx1
  refine lv_bipush (v := 20) hx hb gX12_feed_0.2.2.1 (by decide) ?_
  refine tr_iadd hx hb gX12_feed_0.2.2.2.1 (Eq.refl _) tk_20 (by omega) (by omega) (fun x3 ex3 => ?_)
  replace hF := hF.trans (dv_bn (ex3.symm))
  refine lv_sipush (v := 400) hx hb gX12_feed_0.2.2.2.2.1 (by decide) ?_
  refine tr_icmp_le (tgt := 15) hx hb gX12_feed_0.2.2.2.2.2.1 (by decide) (Eq.refl _) tk_400 (fun c10 => ?_) (fun c10 => ?_)
  · replace hF := hF.trans (if_pos c10)
    refine lv_aload_n hx hb gX12_feed_1.1 rfl (lv_at hl 0 rfl) ?_
    refine th_getO (j := 12) (r2 := 54) hC cf_X12 hB.1 h0 ro_46 rfl rfl kf_X12_48 gX12_feed_1.2.1 (fun b4 mb4 hb4 => ?_)
    refine lv_iconst (v := 0) hx hb gX12_feed_1.2.2.1 (by decide) ?_
    refine lv_iload_n hx hb gX12_feed_1.2.2.2.1 rfl (lv_at hl 1 rfl) ?_
    have hIo := hB.1
    refine th_iastF hC hB hb4 (Or.inl hb4) ro_54 rfl (by decide) tk_0 (by omega) (by omega) th_sIa gX12_feed_1.2.2.2.2.1 (fun H21 locs hB hf21 hst21 => ?_)
    have hf := hf21
    have mm5 := (th_F_o hf h0 ro_46 (j := 13) (by decide) (by decide)).trans mx1
    have mm6 := (th_F_o hf h0 ro_46 (j := 12) (by decide) (by decide)).trans mb4
    have hR := th_RC_F hB.1 hR hf (th_T_s hb4 ro_54 hst21) (by decide)
    have fv_H21_13 : mo_f G H21 a0 13 = mo_f G H0 a0 13 := mo_f_F hf h0 (by decide) (by decide)
    replace hF := hF.trans (dv_bn (dv_stoI hIo hB.1 hU hb4 ow_54 (i := 0) hst21 (Eq.refl _) (by omega)))
    refine lv_aload_n hx hb gX12_feed_1.2.2.2.2.2.1 rfl (lv_at hl 0 rfl) ?_
    refine th_getK hC cf_X12 hB.1 h0 ro_46 rfl (j := 12) (by decide) mm6 kf_X12_48 gX12_feed_1.2.2.2.2.2.2.1 ?_
    refine lv_iconst (v := 1) hx hb gX12_feed_1.2.2.2.2.2.2.2 (by decide) ?_
    refine lv_iload_n hx hb gX12_feed_2.1 rfl (lv_at hl 2 rfl) ?_
    have hIo := hB.1
    refine th_iastF hC hB hb4 (Or.inl hb4) ro_54 rfl (by decide) tk_1 (by omega) (by omega) th_sIa gX12_feed_2.2.1 (fun H28 locs hB hf28 hst28 => ?_)
    have hf := hf28
    have mm7 := (th_F_o hf h0 ro_46 (j := 13) (by decide) (by decide)).trans mm5
    have mm8 := (th_F_o hf h0 ro_46 (j := 12) (by decide) (by decide)).trans mm6
    have hR := th_RC_F hB.1 hR hf (th_T_s hb4 ro_54 hst28) (by decide)
    have fv_H28_13 : mo_f G H28 a0 13 = mo_f G H21 a0 13 := mo_f_F hf h0 (by decide) (by decide)
    replace hF := hF.trans (dv_bn (dv_stoI hIo hB.1 hU hb4 ow_54 (i := 1) hst28 (Eq.refl _) (by omega)))
    refine lv_aload_n hx hb gX12_feed_2.2.2.1 rfl (lv_at hl 0 rfl) ?_
    refine th_getK hC cf_X12 hB.1 h0 ro_46 rfl (j := 12) (by decide) mm8 kf_X12_48 gX12_feed_2.2.2.2.1 ?_
    refine lv_iconst (v := 2) hx hb gX12_feed_2.2.2.2.2.1 (by decide) ?_
    refine lv_iload_n hx hb gX12_feed_2.2.2.2.2.2.1 rfl (lv_at hl 3 rfl) ?_
    have hIo := hB.1
    refine th_iastF hC hB hb4 (Or.inl hb4) ro_54 rfl (by decide) tk_2 (by omega) (by omega) th_sIa gX12_feed_2.2.2.2.2.2.2.1 (fun H35 locs hB hf35 hst35 => ?_)
    have hf := hf35
    have mm9 := (th_F_o hf h0 ro_46 (j := 13) (by decide) (by decide)).trans mm7
    have mm10 := (th_F_o hf h0 ro_46 (j := 12) (by decide) (by decide)).trans mm8
    have hR := th_RC_F hB.1 hR hf (th_T_s hb4 ro_54 hst35) (by decide)
    have fv_H35_13 : mo_f G H35 a0 13 = mo_f G H28 a0 13 := mo_f_F hf h0 (by decide) (by decide)
    replace hF := hF.trans (dv_bn (dv_stoI hIo hB.1 hU hb4 ow_54 (i := 2) hst35 (Eq.refl _) (by omega)))
    refine lv_aload_n hx hb gX12_feed_2.2.2.2.2.2.2.2 rfl (lv_at hl 0 rfl) ?_
    refine th_getK hC cf_X12 hB.1 h0 ro_46 rfl (j := 12) (by decide) mm10 kf_X12_48 gX12_feed_3.1 ?_
    refine lv_iconst (v := 3) hx hb gX12_feed_3.2.1 (by decide) ?_
    refine lv_iload hx hb gX12_feed_3.2.2.1 (lv_at hl 4 rfl) ?_
    have hIo := hB.1
    refine th_iastF hC hB hb4 (Or.inl hb4) ro_54 rfl (by decide) tk_3 (by omega) (by omega) th_sIa gX12_feed_3.2.2.2.1 (fun H43 locs hB hf43 hst43 => ?_)
    have hf := hf43
    have mm11 := (th_F_o hf h0 ro_46 (j := 13) (by decide) (by decide)).trans mm9
    have mm12 := (th_F_o hf h0 ro_46 (j := 12) (by decide) (by decide)).trans mm10
    have hR := th_RC_F hB.1 hR hf (th_T_s hb4 ro_54 hst43) (by decide)
    have fv_H43_13 : mo_f G H43 a0 13 = mo_f G H35 a0 13 := mo_f_F hf h0 (by decide) (by decide)
    replace hF := hF.trans (dv_bn (dv_stoI hIo hB.1 hU hb4 ow_54 (i := 3) hst43 (Eq.refl _) (by omega)))
    refine lv_aload_n hx hb gX12_feed_3.2.2.2.2.1 rfl (lv_at hl 0 rfl) ?_
    refine th_getK hC cf_X12 hB.1 h0 ro_46 rfl (j := 12) (by decide) mm12 kf_X12_48 gX12_feed_3.2.2.2.2.2.1 ?_
    refine lv_iconst (v := 4) hx hb gX12_feed_3.2.2.2.2.2.2.1 (by decide) ?_
    refine lv_iload hx hb gX12_feed_3.2.2.2.2.2.2.2 (lv_at hl 5 rfl) ?_
    have hIo := hB.1
    refine th_iastF hC hB hb4 (Or.inl hb4) ro_54 rfl (by decide) tk_4 (by omega) (by omega) th_sIa gX12_feed_4.1 (fun H51 locs hB hf51 hst51 => ?_)
    have hf := hf51
    have mm13 := (th_F_o hf h0 ro_46 (j := 13) (by decide) (by decide)).trans mm11
    have mm14 := (th_F_o hf h0 ro_46 (j := 12) (by decide) (by decide)).trans mm12
    have hR := th_RC_F hB.1 hR hf (th_T_s hb4 ro_54 hst51) (by decide)
    have fv_H51_13 : mo_f G H51 a0 13 = mo_f G H43 a0 13 := mo_f_F hf h0 (by decide) (by decide)
    replace hF := hF.trans (dv_bn (dv_stoI hIo hB.1 hU hb4 ow_54 (i := 4) hst51 (Eq.refl _) (by omega)))
    refine lv_iconst (v := 0) hx hb gX12_feed_4.2.1 (by decide) ?_
    refine lv_istore (lv' := [(6, .int 0), (0, .ref a0), (1, .int p1), (2, .int p2), (3, .int p3), (4, .int p4), (5, .int p5)]) hx hb gX12_feed_4.2.2.1 hl (by decide) rfl (fun ls hl => ?_)
    have lp55 : ∀ (n55 : Nat) (H55 : Heap) (locs : List Loc) (ls : Array Slot) (j55_6 : Int32), th_B G Γ Γ [(46, 13), (54, 0), (53, 0)] H0 H55 locs → th_RC G Γ H55 → lv_has ls 7 [(0, .ref a0), (6, .int j55_6)] → F = dv_lp f_X12_feed_55b (dv G Γ H55, (a0 : Int), j55_6.toInt) → 0 ≤ j55_6.toInt → j55_6.toInt ≤ 20 → mo_f G H55 a0 13 ≤ 380 → th_sl H55 a0 (G.1.1.2 12 13) = .int x1 → (2147483648 : Int) - j55_6.toInt ≤ (n55 : Int) → W p l e ({ frames := 0, cells := 0, slots := 0, locals := 0 } : Room) s m ([.ref a0, .int p1, .int p2, .int p3, .int p4, .int p5] : List Value).toArray below meth c H55 locs 0 0 (MQ below (th_Q (fun (v : Option Value) (H1 : Heap) => ∃ r : Int32, v = some (.int r) ∧ th_I G Γ H1 ∧ th_F G Γ [(46, 13), (54, 0), (53, 0)] H0 H1 ∧ th_RC G Γ H1 ∧ (f_X12_feed (dv G Γ H0) (a0 : Int) p1.toInt p2.toInt p3.toInt p4.toInt p5.toInt = (dv G Γ H1, r.toInt))) G) ([.ref a0, .int p1, .int p2, .int p3, .int p4, .int p5] : List Value).toArray s 0 0 (fun q => G.1.2.2 ≤ q)) (F0 m 55 ls []) := by
      intro n55
      induction n55 with
      | zero => intro H55 locs ls j55_6 hB hR hl hF g55_0 g55_1 g55_2 g55_3 hm55; exact absurd hm55 (by have := ti_hi j55_6; omega)
      | succ n55 ih55 =>
        intro H55 locs ls j55_6 hB hR hl hF g55_0 g55_1 g55_2 g55_3 hm55
        have lj55_6 := ti_lo j55_6; have uj55_6 := ti_hi j55_6
        have mm15 := (th_F_o hB.2.2 h0 ro_46 (j := 12) (by decide) (by decide)).trans mb4
        have hm55 : (2147483648 : Int) - j55_6.toInt ≤ (n55 : Int) + 1 := by omega
        replace hF := hF.trans (dv_lp_eq)
        replace hF := hF.trans (congrArg (dv_k f_X12_feed_55b) (f_X12_feed_55c.eq_1 (dv G Γ H55) ((a0 : Int)) (j55_6.toInt)))
        refine lv_iload hx hb gX12_feed_4.2.2.2.1 (lv_at hl 1 rfl) ?_
        refine lv_bipush (v := 20) hx hb gX12_feed_4.2.2.2.2.1 (by decide) ?_
        refine tr_icmp_ge (tgt := 101) hx hb gX12_feed_4.2.2.2.2.2.1 (by decide) (Eq.refl _) tk_20 (fun c59 => ?_) (fun c59 => ?_)
        · replace hF := hF.trans (congrArg (dv_k f_X12_feed_55b) (if_pos c59))
          refine lv_aload_n hx hb gX12_feed_7.2.2.2.2.2.2.1 rfl (lv_at hl 0 rfl) ?_
          refine lv_dup hx hb gX12_feed_7.2.2.2.2.2.2.2 rfl ?_
          refine th_getK hC cf_X12 hB.1 h0 ro_46 rfl (j := 13) (by decide) g55_3 kf_X12_169 gX12_feed_8.1 ?_
          replace hF := hF.trans (congrArg (dv_k f_X12_feed_55b) (dv_bn (dv_getI h0 ro_46 (j := 13) rfl g55_3 (by decide))))
          have fg16 : mo_f G H55 a0 13 = x1.toInt := mo_fat g55_3
          refine lv_bipush (v := 20) hx hb gX12_feed_8.2.1 (by decide) ?_
          refine tr_iadd hx hb gX12_feed_8.2.2.1 (Eq.refl _) tk_20 (by omega) (by omega) (fun x17 ex17 => ?_)
          replace hF := hF.trans (congrArg (dv_k f_X12_feed_55b) (dv_bn (ex17.symm)))
          refine th_put hC cf_X12 hB h0 (Or.inl h0) ro_46 rfl (j := 13) rfl (th_sI (by omega) (by omega)) (by decide) rfl rfl rfl kf_X12_169 gX12_feed_8.2.2.2.1 (fun H109 locs hB hf hst109 => ?_)
          have mm18 := (th_F_o hf h0 ro_46 (j := 12) (by decide) (by decide)).trans mm15
          have hR := th_RC_F hB.1 hR hf (th_T_s h0 ro_46 hst109) (by decide)
          replace hF := hF.trans (congrArg (dv_k f_X12_feed_55b) (dv_bn (dv_putI hB.1 h0 ro_46 (j := 13) rfl (th_apart hC cf_X12) hst109 (Eq.refl _) (by decide))))
          have fp109 : mo_f G H109 a0 13 = x17.toInt := mo_f_St hst109
          have mm19 := hst109.2.1
          refine lv_aload_n hx hb gX12_feed_8.2.2.2.2.1 rfl (lv_at hl 0 rfl) ?_
          refine th_getK hC cf_X12 hB.1 h0 ro_46 rfl (j := 13) (by decide) mm19 kf_X12_169 gX12_feed_8.2.2.2.2.2.1 ?_
          replace hF := hF.trans (congrArg (dv_k f_X12_feed_55b) (dv_bn (dv_getI h0 ro_46 (j := 13) rfl mm19 (by decide))))
          have fg20 : mo_f G H109 a0 13 = x17.toInt := mo_fat mm19
          replace hF := hF.trans (dv_kr)
          exact th_iret hC hH hr hlocks rfl hB.2.1 ⟨_, rfl, hB.1, hB.2.2, hR, (hF0.symm.trans hF)⟩ gX12_feed_8.2.2.2.2.2.2
        · replace hF := hF.trans (congrArg (dv_k f_X12_feed_55b) (if_neg (Int.not_le.mpr c59)))
          refine lv_aload_n hx hb gX12_feed_4.2.2.2.2.2.2.1 rfl (lv_at hl 0 rfl) ?_
          refine th_getO (j := 11) (r2 := 53) hC cf_X12 hB.1 h0 ro_46 rfl rfl kf_X12_45 gX12_feed_4.2.2.2.2.2.2.2 (fun b21 mb21 hb21 => ?_)
          have sb21 := (th_F_o hB.2.2 h0 ro_46 (j := 11) (by decide) (by decide)).symm.trans mb21
          refine lv_aload_n hx hb gX12_feed_5.1 rfl (lv_at hl 0 rfl) ?_
          refine th_getK hC cf_X12 hB.1 h0 ro_46 rfl (j := 13) (by decide) g55_3 kf_X12_169 gX12_feed_5.2.1 ?_
          replace hF := hF.trans (congrArg (dv_k f_X12_feed_55b) (dv_bn (dv_getI h0 ro_46 (j := 13) rfl g55_3 (by decide))))
          have fg22 : mo_f G H55 a0 13 = x1.toInt := mo_fat g55_3
          refine lv_iload hx hb gX12_feed_5.2.2.1 (lv_at hl 1 rfl) ?_
          refine tr_iadd hx hb gX12_feed_5.2.2.2.1 (Eq.refl _) (Eq.refl _) (by omega) (by omega) (fun x23 ex23 => ?_)
          replace hF := hF.trans (congrArg (dv_k f_X12_feed_55b) (dv_bn (ex23.symm)))
          refine lv_aload_n hx hb gX12_feed_5.2.2.2.2.1 rfl (lv_at hl 0 rfl) ?_
          refine th_getK hC cf_X12 hB.1 h0 ro_46 rfl (j := 12) (by decide) mm15 kf_X12_48 gX12_feed_5.2.2.2.2.2.1 ?_
          refine lv_iload hx hb gX12_feed_5.2.2.2.2.2.2.1 (lv_at hl 1 rfl) ?_
          refine lv_iconst (v := 4) hx hb gX12_feed_5.2.2.2.2.2.2.2 (by decide) ?_
          refine tr_idiv hx hb gX12_feed_6.1 (Eq.refl _) tk_4 (by omega) (by omega) (fun x24 ex24 => ?_)
          replace hF := hF.trans (congrArg (dv_k f_X12_feed_55b) (dv_bn (ex24.symm)))
          refine th_ialdF hC hB.1 hb4 ro_54 rfl (Eq.refl _) (by omega) (by omega) rfl gX12_feed_6.2.1 (fun x25 mx25 lx25 ux25 => ?_)
          replace hF := hF.trans (congrArg (dv_k f_X12_feed_55b) (dv_bn (dv_aldI hB.1 hU hb4 ow_54 (z := x24.toInt) mx25 (by omega))))
          refine lv_bipush (v := 24) hx hb gX12_feed_6.2.2.1 (by decide) ?_
          refine lv_bipush (v := 8) hx hb gX12_feed_6.2.2.2.1 (by decide) ?_
          refine lv_iload hx hb gX12_feed_6.2.2.2.2.1 (lv_at hl 1 rfl) ?_
          refine lv_iconst (v := 4) hx hb gX12_feed_6.2.2.2.2.2.1 (by decide) ?_
          refine tr_irem hx hb gX12_feed_6.2.2.2.2.2.2.1 (Eq.refl _) tk_4 (by omega) (by omega) (fun x26 ex26 => ?_)
          replace hF := hF.trans (congrArg (dv_k f_X12_feed_55b) (dv_bn (ex26.symm)))
          refine tr_imul hx hb gX12_feed_6.2.2.2.2.2.2.2 tk_8 (Eq.refl _) (by omega) (by omega) (fun x27 ex27 => ?_)
          replace hF := hF.trans (congrArg (dv_k f_X12_feed_55b) (dv_bn (ex27.symm)))
          refine tr_isub hx hb gX12_feed_7.1 tk_24 (Eq.refl _) (by omega) (by omega) (fun x28 ex28 => ?_)
          replace hF := hF.trans (congrArg (dv_k f_X12_feed_55b) (dv_bn (ex28.symm)))
          refine lv_ishr hx hb gX12_feed_7.2.1 ?_
          refine lv_topi (fun x29 ex29 => ?_)
          have lx29 := ti_lo x29; have ux29 := ti_hi x29
          replace hF := hF.trans (congrArg (dv_k f_X12_feed_55b) (dv_bn (dv_shr_e (Eq.refl _) (Eq.refl _) ex29)))
          refine lv_i2b hx hb gX12_feed_7.2.2.1 rfl ?_
          refine lv_topi (fun x30 ex30 => ?_)
          have lx30 := ti_lo x30; have ux30 := ti_hi x30
          replace hF := hF.trans (congrArg (dv_k f_X12_feed_55b) (dv_bn (dv_i2b_e (Eq.refl _) ex30)))
          have hIo := hB.1
          refine th_bastF hC hB hb21 (Or.inl hb21) ro_53 rfl (by decide) (Eq.refl _) (by omega) (by omega) (th_sI (ti_byte _).1 (ti_byte _).2) (narrow_byte _) gX12_feed_7.2.2.2.1 (fun H94 locs hB hf94 hst94 => ?_)
          have hf := hf94
          have mm31 := (th_F_o hf h0 ro_46 (j := 13) (by decide) (by decide)).trans g55_3
          have mm32 := (th_F_o hf h0 ro_46 (j := 12) (by decide) (by decide)).trans mm15
          have mm33 := (th_F_o hf h0 ro_46 (j := 11) (by decide) (by decide)).trans mb21
          have hR := th_RC_F hB.1 hR hf (th_T_s hb21 ro_53 hst94) (by decide)
          have fv_H94_13 : mo_f G H94 a0 13 = mo_f G H55 a0 13 := mo_f_F hf h0 (by decide) (by decide)
          replace hF := hF.trans (congrArg (dv_k f_X12_feed_55b) (dv_bn (dv_stoI hIo hB.1 hU hb21 ow_53 (i := x23.toInt) hst94 (dv_i2b_e (Eq.refl _) rfl).symm (by omega))))
          refine tr_iinc (fun x34 => [(6, .int x34), (0, .ref a0)]) hx hb gX12_feed_7.2.2.2.2.1 hl (k := 1) rfl (Eq.refl _) tk_1 (by omega) (by omega) (by decide) (fun _ => rfl) (fun x34 ls ex34 hl => ?_)
          replace hF := hF.trans (congrArg (dv_k f_X12_feed_55b) (dv_bn (ex34.symm)))
          refine lv_goto (tgt := 55) hx hb gX12_feed_7.2.2.2.2.2.1 (by decide) ?_
          replace hF := hF.trans (dv_kl)
          exact ih55 H94 locs ls x34 hB hR (lv_sub hl [1, 0] rfl) hF (by omega) (by omega) (by omega) mm31 (by omega)
    exact lp55 ((2147483648 : Int) - (0)).toNat H51 locs ls 0 hB hR (lv_sub hl [1, 0] rfl) (by rw [tk_0]; exact hF) (by decide) (by decide) (by have w0 := tk_0; omega) mm13 (by have w0 := tk_0; omega)
  · replace hF := hF.trans (if_neg (Int.not_le.mpr c10))
    refine lv_iconst (v := (-1)) hx hb gX12_feed_0.2.2.2.2.2.2.1 (by decide) ?_
    exact th_iret hC hH hr hlocks rfl hB.2.1 ⟨_, rfl, hB.1, hB.2.2, hR, (hF0.symm.trans (hF.trans (by rw [tk_m1])))⟩ gX12_feed_0.2.2.2.2.2.2.2

set_option maxHeartbeats 4000000 in
set_option maxRecDepth 100000 in
theorem c_X12_few (l : Launch) (G : th_G) (Γ : th_Ga) (H0 : Heap) (hI : th_I G Γ H0) (hR : th_RC G Γ H0) (hU : dv_U Γ) (a0 : Nat) (h0 : Γ a0 = (46, 0)) (p1 : Int32) (p2 : Int32) : Met l yX12_few (.code yX12_few cX12_few 6 (some FieldType.long) :: th_tb) ({ frames := 1, cells := 0, slots := 0, locals := 22 } : Room) (th_P [.ref a0, .int p1, .int p2] G H0) (th_Q (fun (v : Option Value) (H1 : Heap) => ∃ r : Int64, v = some (.long r) ∧ th_I G Γ H1 ∧ th_F G Γ [(68, 0)] H0 H1 ∧ th_RC G Γ H1) G) 0 0 (fun q => G.1.2.2 ≤ q) := by
  refine th_met RX12 (by decide) rfl (Nat.le_of_ble_eq_true rfl) ?_
  intro p e s m below meth c hC hH hr hlocks hnm ls hl
  have hx := hC.1
  have hb := hC.2.1
  have hB : th_B G Γ Γ [(68, 0)] H0 H0 [] := ⟨hI, va_S.rf, th_F_rf⟩
  have hl : lv_has ls 6 [(0, .ref a0), (1, .int p1), (2, .int p2)] := hl
  have lp1 := ti_lo p1; have up1 := ti_hi p1
  have lp2 := ti_lo p2; have up2 := ti_hi p2
  refine lv_iload_n hx hb gX12_few_0.1 rfl (lv_at hl 1 rfl) ?_
  refine lv_iconst (v := 1) hx hb gX12_few_0.2.1 (by decide) ?_
  refine lv_bipush (v := 20) hx hb gX12_few_0.2.2.1 (by decide) ?_
  refine th_call (th_runS (As := [.int p1, .int 1, .int 20]) (rest := []) hC mf_X12_lies km_X12_18 st_X12_lies (c_X12_lies l G Γ H0 hB.1 hU p1 1 20) rfl rfl ⟨Nat.le_of_ble_eq_true rfl, Nat.le_of_ble_eq_true rfl⟩ rfl hl.1 rfl (Nat.le_of_ble_eq_true rfl) gX12_few_0.2.2.2.1 ⟨Nat.le_refl _, Nat.le_refl _⟩) hB.2.1 (fun v4 H4 locs hp hz hS => ?_)
  obtain ⟨x1, rfl, lx1, ux1, q4_0, q4_1, q4_2, rfl⟩ := hp
  have hB := th_B_s hB hS
  have w4_1 := tk_1
  have w4_2 := tk_20
  refine W.eq (g2 := F0 m 7 ls [.int x1]) rfl ?_
  refine tr_if_eq (tgt := 20) hx hb gX12_few_0.2.2.2.2.1 (by decide) (Eq.refl _) (fun c7 => ?_) (fun c7 => ?_)
  · refine lv_ldc2 (v := (-1)) hx hb hC.2.2.2.1 (hC.2.2.2.2.1 _ kw_1903) gX12_few_1.2.2.1 ?_
    exact th_lret hC hH hr hlocks hB.2.1 ⟨_, rfl, hB.1, hB.2.2, hR⟩ gX12_few_1.2.2.2.1
  · refine lv_iload_n hx hb gX12_few_0.2.2.2.2.2.1 rfl (lv_at hl 2 rfl) ?_
    refine lv_iconst (v := 0) hx hb gX12_few_0.2.2.2.2.2.2.1 (by decide) ?_
    refine lv_bipush (v := 99) hx hb gX12_few_0.2.2.2.2.2.2.2 (by decide) ?_
    refine th_call (th_runS (As := [.int p2, .int 0, .int 99]) (rest := []) hC mf_X12_lies km_X12_18 st_X12_lies (c_X12_lies l G Γ H0 hB.1 hU p2 0 99) rfl rfl ⟨Nat.le_of_ble_eq_true rfl, Nat.le_of_ble_eq_true rfl⟩ rfl hl.1 rfl (Nat.le_of_ble_eq_true rfl) gX12_few_1.1 ⟨Nat.le_refl _, Nat.le_refl _⟩) hB.2.1 (fun v14 H14 locs hp hz hS => ?_)
    obtain ⟨x2, rfl, lx2, ux2, q14_0, q14_1, q14_2, rfl⟩ := hp
    have hB := th_B_s hB hS
    have w14_1 := tk_0
    have w14_2 := tk_99
    refine W.eq (g2 := F0 m 17 ls [.int x2]) rfl ?_
    refine tr_if_ne (tgt := 24) hx hb gX12_few_1.2.1 (by decide) (Eq.refl _) (fun c17 => ?_) (fun c17 => ?_)
    · refine lv_iconst (v := 0) hx hb gX12_few_1.2.2.2.2.1 (by decide) ?_
      refine lv_istore_n (lv' := [(3, .int 0), (0, .ref a0), (1, .int p1), (2, .int p2)]) hx hb gX12_few_1.2.2.2.2.2.1 rfl hl (by decide) rfl (fun ls hl => ?_)
      have lp26 : ∀ (n26 : Nat) (H26 : Heap) (locs : List Loc) (ls : Array Slot) (j26_3 : Int32), th_B G Γ Γ [(68, 0)] H0 H26 locs → th_RC G Γ H26 → lv_has ls 6 [(0, .ref a0), (1, .int p1), (2, .int p2), (3, .int j26_3)] → 0 ≤ j26_3.toInt → j26_3.toInt ≤ 22 → (2147483648 : Int) - j26_3.toInt ≤ (n26 : Int) → W p l e ({ frames := 1, cells := 0, slots := 0, locals := 22 } : Room) s m ([.ref a0, .int p1, .int p2] : List Value).toArray below meth c H26 locs 0 0 (MQ below (th_Q (fun (v : Option Value) (H1 : Heap) => ∃ r : Int64, v = some (.long r) ∧ th_I G Γ H1 ∧ th_F G Γ [(68, 0)] H0 H1 ∧ th_RC G Γ H1) G) ([.ref a0, .int p1, .int p2] : List Value).toArray s 0 0 (fun q => G.1.2.2 ≤ q)) (F0 m 26 ls []) := by
        intro n26
        induction n26 with
        | zero => intro H26 locs ls j26_3 hB hR hl g26_0 g26_1 hm26; exact absurd hm26 (by have := ti_hi j26_3; omega)
        | succ n26 ih26 =>
          intro H26 locs ls j26_3 hB hR hl g26_0 g26_1 hm26
          have lj26_3 := ti_lo j26_3; have uj26_3 := ti_hi j26_3
          have hm26 : (2147483648 : Int) - j26_3.toInt ≤ (n26 : Int) + 1 := by omega
          refine lv_iload_n hx hb gX12_few_1.2.2.2.2.2.2.1 rfl (lv_at hl 3 rfl) ?_
          refine lv_bipush (v := 20) hx hb gX12_few_1.2.2.2.2.2.2.2 (by decide) ?_
          refine tr_icmp_gt (tgt := 55) hx hb gX12_few_2.1 (by decide) (Eq.refl _) tk_20 (fun c29 => ?_) (fun c29 => ?_)
          · refine lv_iconst (v := 0) hx hb gX12_few_3.2.2.2.2.1 (by decide) ?_
            refine lv_istore_n (lv' := [(3, .int 0), (0, .ref a0), (1, .int p1), (2, .int p2)]) hx hb gX12_few_3.2.2.2.2.2.1 rfl hl (by decide) rfl (fun ls hl => ?_)
            have lp57 : ∀ (n57 : Nat) (H57 : Heap) (locs : List Loc) (ls : Array Slot) (j57_3 : Int32), th_B G Γ Γ [(68, 0)] H0 H57 locs → th_RC G Γ H57 → lv_has ls 6 [(0, .ref a0), (1, .int p1), (2, .int p2), (3, .int j57_3)] → 0 ≤ j57_3.toInt → j57_3.toInt ≤ 100 → (2147483648 : Int) - j57_3.toInt ≤ (n57 : Int) → W p l e ({ frames := 1, cells := 0, slots := 0, locals := 22 } : Room) s m ([.ref a0, .int p1, .int p2] : List Value).toArray below meth c H57 locs 0 0 (MQ below (th_Q (fun (v : Option Value) (H1 : Heap) => ∃ r : Int64, v = some (.long r) ∧ th_I G Γ H1 ∧ th_F G Γ [(68, 0)] H0 H1 ∧ th_RC G Γ H1) G) ([.ref a0, .int p1, .int p2] : List Value).toArray s 0 0 (fun q => G.1.2.2 ≤ q)) (F0 m 57 ls []) := by
              intro n57
              induction n57 with
              | zero => intro H57 locs ls j57_3 hB hR hl g57_0 g57_1 hm57; exact absurd hm57 (by have := ti_hi j57_3; omega)
              | succ n57 ih57 =>
                intro H57 locs ls j57_3 hB hR hl g57_0 g57_1 hm57
                have lj57_3 := ti_lo j57_3; have uj57_3 := ti_hi j57_3
                have hm57 : (2147483648 : Int) - j57_3.toInt ≤ (n57 : Int) + 1 := by omega
                refine lv_iload_n hx hb gX12_few_3.2.2.2.2.2.2.1 rfl (lv_at hl 3 rfl) ?_
                refine lv_iload_n hx hb gX12_few_3.2.2.2.2.2.2.2 rfl (lv_at hl 2 rfl) ?_
                refine tr_icmp_ge (tgt := 146) hx hb gX12_few_4.1 (by decide) (Eq.refl _) (Eq.refl _) (fun c59 => ?_) (fun c59 => ?_)
                · refine lv_lconst (v := 0) hx hb gX12_few_10.2.2.1 rfl ?_
                  refine lv_lstore_n (lv' := [(3, .long 0), (0, .ref a0), (1, .int p1), (2, .int p2)]) hx hb gX12_few_10.2.2.2.1 rfl hl (by decide) rfl (fun ls hl => ?_)
                  refine lv_iconst (v := 0) hx hb gX12_few_10.2.2.2.2.1 (by decide) ?_
                  refine lv_istore (lv' := [(5, .int 0), (3, .long 0), (0, .ref a0), (1, .int p1), (2, .int p2)]) hx hb gX12_few_10.2.2.2.2.2.1 hl (by decide) rfl (fun ls hl => ?_)
                  have lp151 : ∀ (n151 : Nat) (locs : List Loc) (ls : Array Slot) (j151_3 : Int64) (j151_5 : Int32), th_B G Γ Γ [(68, 0)] H0 H57 locs → lv_has ls 6 [(0, .ref a0), (1, .int p1), (3, .long j151_3), (5, .int j151_5)] → 0 ≤ j151_5.toInt → j151_5.toInt ≤ 20 → (2147483648 : Int) - j151_5.toInt ≤ (n151 : Int) → W p l e ({ frames := 1, cells := 0, slots := 0, locals := 22 } : Room) s m ([.ref a0, .int p1, .int p2] : List Value).toArray below meth c H57 locs 0 0 (MQ below (th_Q (fun (v : Option Value) (H1 : Heap) => ∃ r : Int64, v = some (.long r) ∧ th_I G Γ H1 ∧ th_F G Γ [(68, 0)] H0 H1 ∧ th_RC G Γ H1) G) ([.ref a0, .int p1, .int p2] : List Value).toArray s 0 0 (fun q => G.1.2.2 ≤ q)) (F0 m 151 ls []) := by
                    intro n151
                    induction n151 with
                    | zero => intro locs ls j151_3 j151_5 hB hl g151_0 g151_1 hm151; exact absurd hm151 (by have := ti_hi j151_5; omega)
                    | succ n151 ih151 =>
                      intro locs ls j151_3 j151_5 hB hl g151_0 g151_1 hm151
                      have lj151_5 := ti_lo j151_5; have uj151_5 := ti_hi j151_5
                      have hm151 : (2147483648 : Int) - j151_5.toInt ≤ (n151 : Int) + 1 := by omega
                      refine lv_iload hx hb gX12_few_10.2.2.2.2.2.2.1 (lv_at hl 3 rfl) ?_
                      refine lv_iload_n hx hb gX12_few_10.2.2.2.2.2.2.2 rfl (lv_at hl 1 rfl) ?_
                      refine tr_icmp_ge (tgt := 173) hx hb gX12_few_11.1 (by decide) (Eq.refl _) (Eq.refl _) (fun c154 => ?_) (fun c154 => ?_)
                      · refine lv_lload_n hx hb gX12_few_12.2.2.1 rfl (lv_at hl 2 rfl) ?_
                        exact th_lret hC hH hr hlocks hB.2.1 ⟨_, rfl, hB.1, hB.2.2, hR⟩ gX12_few_12.2.2.2
                      · refine lv_lload_n hx hb gX12_few_11.2.1 rfl (lv_at hl 2 rfl) ?_
                        refine lv_aload_n hx hb gX12_few_11.2.2.1 rfl (lv_at hl 0 rfl) ?_
                        refine th_getO (j := 46) (r2 := 68) hC cf_X12 hB.1 h0 ro_46 rfl rfl kf_X12_93 gX12_few_11.2.2.2.1 (fun b3 mb3 hb3 => ?_)
                        have sb3 := (th_F_o hB.2.2 h0 ro_46 (j := 46) (by decide) (by decide)).symm.trans mb3
                        refine lv_iload hx hb gX12_few_11.2.2.2.2.1 (lv_at hl 3 rfl) ?_
                        refine th_laldF hC hB.1 hb3 ro_68 rfl (Eq.refl _) (by omega) (by omega) rfl gX12_few_11.2.2.2.2.2.1 (fun y4 my4 ly4 uy4 => ?_)
                        refine lv_ladd hx hb gX12_few_11.2.2.2.2.2.2.1 ?_
                        refine lv_topl (fun y5 ey5 => ?_)
                        refine lv_lstore_n (lv' := [(3, .long y5), (0, .ref a0), (1, .int p1), (5, .int j151_5)]) hx hb gX12_few_11.2.2.2.2.2.2.2 rfl hl (by decide) rfl (fun ls hl => ?_)
                        refine tr_iinc (fun x6 => [(5, .int x6), (3, .long y5), (0, .ref a0), (1, .int p1)]) hx hb gX12_few_12.1 hl (k := 3) rfl (Eq.refl _) tk_1 (by omega) (by omega) (by decide) (fun _ => rfl) (fun x6 ls ex6 hl => ?_)
                        refine lv_goto (tgt := 151) hx hb gX12_few_12.2.1 (by decide) ?_
                        exact ih151 locs ls y5 x6 hB (lv_sub hl [2, 3, 1, 0] rfl) (by omega) (by omega) (by omega)
                  exact lp151 ((2147483648 : Int) - (0)).toNat locs ls 0 0 hB (lv_sub hl [2, 3, 1, 0] rfl) (by decide) (by decide) (by have w0 := tk_0; omega)
                · refine lv_iload_n hx hb gX12_few_4.2.1 rfl (lv_at hl 1 rfl) ?_
                  refine lv_iconst (v := 1) hx hb gX12_few_4.2.2.1 (by decide) ?_
                  refine tr_isub hx hb gX12_few_4.2.2.2.1 (Eq.refl _) tk_1 (by omega) (by omega) (fun x7 ex7 => ?_)
                  refine lv_istore (lv' := [(4, .int x7), (0, .ref a0), (1, .int p1), (2, .int p2), (3, .int j57_3)]) hx hb gX12_few_4.2.2.2.2.1 hl (by decide) rfl (fun ls hl => ?_)
                  have lp67 : ∀ (n67 : Nat) (H67 : Heap) (locs : List Loc) (ls : Array Slot) (j67_4 : Int32), th_B G Γ Γ [(68, 0)] H0 H67 locs → th_RC G Γ H67 → lv_has ls 6 [(0, .ref a0), (1, .int p1), (2, .int p2), (3, .int j57_3), (4, .int j67_4)] → (-1) ≤ j67_4.toInt → j67_4.toInt ≤ 19 → j67_4.toInt + (2147483649 : Int) ≤ (n67 : Int) → W p l e ({ frames := 1, cells := 0, slots := 0, locals := 22 } : Room) s m ([.ref a0, .int p1, .int p2] : List Value).toArray below meth c H67 locs 0 0 (MQ below (th_Q (fun (v : Option Value) (H1 : Heap) => ∃ r : Int64, v = some (.long r) ∧ th_I G Γ H1 ∧ th_F G Γ [(68, 0)] H0 H1 ∧ th_RC G Γ H1) G) ([.ref a0, .int p1, .int p2] : List Value).toArray s 0 0 (fun q => G.1.2.2 ≤ q)) (F0 m 67 ls []) := by
                    intro n67
                    induction n67 with
                    | zero => intro H67 locs ls j67_4 hB hR hl g67_0 g67_1 hm67; exact absurd hm67 (by have := ti_lo j67_4; omega)
                    | succ n67 ih67 =>
                      intro H67 locs ls j67_4 hB hR hl g67_0 g67_1 hm67
                      have lj67_4 := ti_lo j67_4; have uj67_4 := ti_hi j67_4
                      have hm67 : j67_4.toInt + (2147483649 : Int) ≤ (n67 : Int) + 1 := by omega
                      refine lv_iload hx hb gX12_few_4.2.2.2.2.2.1 (lv_at hl 4 rfl) ?_
                      refine tr_if_lt (tgt := 140) hx hb gX12_few_4.2.2.2.2.2.2.1 (by decide) (Eq.refl _) (fun c69 => ?_) (fun c69 => ?_)
                      · refine tr_iinc (fun x8 => [(3, .int x8), (0, .ref a0), (1, .int p1), (2, .int p2), (4, .int j67_4)]) hx hb gX12_few_10.1 hl (k := 3) rfl (Eq.refl _) tk_1 (by omega) (by omega) (by decide) (fun _ => rfl) (fun x8 ls ex8 hl => ?_)
                        refine lv_goto (tgt := 57) hx hb gX12_few_10.2.1 (by decide) ?_
                        exact ih57 H67 locs ls x8 hB hR (lv_sub hl [1, 2, 3, 0] rfl) (by omega) (by omega) (by omega)
                      · refine lv_aload_n hx hb gX12_few_4.2.2.2.2.2.2.2 rfl (lv_at hl 0 rfl) ?_
                        refine th_getO (j := 46) (r2 := 68) hC cf_X12 hB.1 h0 ro_46 rfl rfl kf_X12_93 gX12_few_5.1 (fun b9 mb9 hb9 => ?_)
                        have sb9 := (th_F_o hB.2.2 h0 ro_46 (j := 46) (by decide) (by decide)).symm.trans mb9
                        refine lv_iload hx hb gX12_few_5.2.1 (lv_at hl 4 rfl) ?_
                        refine lv_iconst (v := 1) hx hb gX12_few_5.2.2.1 (by decide) ?_
                        refine tr_iadd hx hb gX12_few_5.2.2.2.1 (Eq.refl _) tk_1 (by omega) (by omega) (fun x10 ex10 => ?_)
                        refine lv_dup2_11 hx hb gX12_few_5.2.2.2.2.1 rfl rfl ?_
                        refine th_laldF hC hB.1 hb9 ro_68 rfl (Eq.refl _) (by omega) (by omega) rfl gX12_few_5.2.2.2.2.2.1 (fun y11 my11 ly11 uy11 => ?_)
                        refine lv_aload_n hx hb gX12_few_5.2.2.2.2.2.2.1 rfl (lv_at hl 0 rfl) ?_
                        refine th_getK hC cf_X12 hB.1 h0 ro_46 rfl (j := 46) (by decide) mb9 kf_X12_93 gX12_few_5.2.2.2.2.2.2.2 ?_
                        refine lv_iload hx hb gX12_few_6.1 (lv_at hl 4 rfl) ?_
                        refine th_laldF hC hB.1 hb9 ro_68 rfl (Eq.refl _) (by omega) (by omega) rfl gX12_few_6.2.1 (fun y12 my12 ly12 uy12 => ?_)
                        refine lv_aload_n hx hb gX12_few_6.2.2.1 rfl (lv_at hl 0 rfl) ?_
                        refine th_getO (j := 2) (r2 := 48) hC cf_X12 hB.1 h0 ro_46 rfl rfl kf_X12_28 gX12_few_6.2.2.2.1 (fun b13 mb13 hb13 => ?_)
                        have sb13 := (th_F_o hB.2.2 h0 ro_46 (j := 2) (by decide) (by decide)).symm.trans mb13
                        refine lv_bipush (v := 65) hx hb gX12_few_6.2.2.2.2.1 (by decide) ?_
                        refine th_ialdF hC hB.1 hb13 ro_48 rfl tk_65 (by omega) (by omega) (ek_b (by omega) (by omega)) gX12_few_6.2.2.2.2.2.1 (fun x14 mx14 lx14 ux14 => ?_)
                        refine lv_i2l hx hb gX12_few_6.2.2.2.2.2.2.1 rfl ?_
                        refine lv_topl (fun y15 ey15 => ?_)
                        refine lv_lmul hx hb gX12_few_6.2.2.2.2.2.2.2 ?_
                        refine lv_topl (fun y16 ey16 => ?_)
                        refine lv_ldc2 (v := 10) hx hb hC.2.2.2.1 (hC.2.2.2.2.1 _ kw_1905) gX12_few_7.1 ?_
                        refine lv_ldiv hx hb gX12_few_7.2.1 (by decide) ?_
                        refine lv_topl (fun y17 ey17 => ?_)
                        refine lv_ladd hx hb gX12_few_7.2.2.1 ?_
                        refine lv_topl (fun y18 ey18 => ?_)
                        refine th_lastF hC hB hb9 (Or.inl hb9) ro_68 rfl (by decide) (Eq.refl _) (by omega) (by omega) th_sLa gX12_few_7.2.2.2.1 (fun H103 locs hB hf103 hst103 => ?_)
                        have hf := hf103
                        have mm19 := (th_F_o hf h0 ro_46 (j := 46) (by decide) (by decide)).trans mb9
                        have mm20 := (th_F_o hf h0 ro_46 (j := 2) (by decide) (by decide)).trans mb13
                        have hR := th_RC_F hB.1 hR hf (th_T_s hb9 ro_68 hst103) (by decide)
                        refine lv_aload_n hx hb gX12_few_7.2.2.2.2.1 rfl (lv_at hl 0 rfl) ?_
                        refine th_getK hC cf_X12 hB.1 h0 ro_46 rfl (j := 46) (by decide) mm19 kf_X12_93 gX12_few_7.2.2.2.2.2.1 ?_
                        refine lv_iload hx hb gX12_few_7.2.2.2.2.2.2.1 (lv_at hl 4 rfl) ?_
                        refine lv_aload_n hx hb gX12_few_7.2.2.2.2.2.2.2 rfl (lv_at hl 0 rfl) ?_
                        refine th_getK hC cf_X12 hB.1 h0 ro_46 rfl (j := 46) (by decide) mm19 kf_X12_93 gX12_few_8.1 ?_
                        refine lv_iload hx hb gX12_few_8.2.1 (lv_at hl 4 rfl) ?_
                        refine th_laldF hC hB.1 hb9 ro_68 rfl (Eq.refl _) (by omega) (by omega) rfl gX12_few_8.2.2.1 (fun y21 my21 ly21 uy21 => ?_)
                        refine lv_bipush (v := 10) hx hb gX12_few_8.2.2.2.1 (by decide) ?_
                        refine lv_aload_n hx hb gX12_few_8.2.2.2.2.1 rfl (lv_at hl 0 rfl) ?_
                        refine th_getK hC cf_X12 hB.1 h0 ro_46 rfl (j := 2) (by decide) mm20 kf_X12_28 gX12_few_8.2.2.2.2.2.1 ?_
                        refine lv_bipush (v := 65) hx hb gX12_few_8.2.2.2.2.2.2.1 (by decide) ?_
                        refine th_ialdF hC hB.1 hb13 ro_48 rfl tk_65 (by omega) (by omega) (ek_b (by omega) (by omega)) gX12_few_8.2.2.2.2.2.2.2 (fun x22 mx22 lx22 ux22 => ?_)
                        refine lv_isub hx hb gX12_few_9.1 ?_
                        refine lv_topi (fun x23 ex23 => ?_)
                        have lx23 := ti_lo x23; have ux23 := ti_hi x23
                        refine lv_i2l hx hb gX12_few_9.2.1 rfl ?_
                        refine lv_topl (fun y24 ey24 => ?_)
                        refine lv_lmul hx hb gX12_few_9.2.2.1 ?_
                        refine lv_topl (fun y25 ey25 => ?_)
                        refine lv_ldc2 (v := 10) hx hb hC.2.2.2.1 (hC.2.2.2.2.1 _ kw_1905) gX12_few_9.2.2.2.1 ?_
                        refine lv_ldiv hx hb gX12_few_9.2.2.2.2.1 (by decide) ?_
                        refine lv_topl (fun y26 ey26 => ?_)
                        refine th_lastF hC hB hb9 (Or.inl hb9) ro_68 rfl (by decide) (Eq.refl _) (by omega) (by omega) th_sLa gX12_few_9.2.2.2.2.2.1 (fun H133 locs hB hf133 hst133 => ?_)
                        have hf := hf133
                        have mm27 := (th_F_o hf h0 ro_46 (j := 46) (by decide) (by decide)).trans mm19
                        have mm28 := (th_F_o hf h0 ro_46 (j := 2) (by decide) (by decide)).trans mm20
                        have hR := th_RC_F hB.1 hR hf (th_T_s hb9 ro_68 hst133) (by decide)
                        refine tr_iinc (fun x29 => [(4, .int x29), (0, .ref a0), (1, .int p1), (2, .int p2), (3, .int j57_3)]) hx hb gX12_few_9.2.2.2.2.2.2.1 hl (k := 4) rfl (Eq.refl _) tk_m1 (by omega) (by omega) (by decide) (fun _ => rfl) (fun x29 ls ex29 hl => ?_)
                        refine lv_goto (tgt := 67) hx hb gX12_few_9.2.2.2.2.2.2.2 (by decide) ?_
                        exact ih67 H133 locs ls x29 hB hR (lv_sub hl [1, 2, 3, 4, 0] rfl) (by omega) (by omega) (by omega)
                  exact lp67 ((x7.toInt) + (2147483649 : Int)).toNat H57 locs ls x7 hB hR (lv_sub hl [1, 2, 3, 4, 0] rfl) (by omega) (by omega) (by omega)
            exact lp57 ((2147483648 : Int) - (0)).toNat H26 locs ls 0 hB hR (lv_sub hl [1, 2, 3, 0] rfl) (by decide) (by decide) (by have w0 := tk_0; omega)
          · refine lv_aload_n hx hb gX12_few_2.2.1 rfl (lv_at hl 0 rfl) ?_
            refine th_getO (j := 46) (r2 := 68) hC cf_X12 hB.1 h0 ro_46 rfl rfl kf_X12_93 gX12_few_2.2.2.1 (fun b30 mb30 hb30 => ?_)
            have sb30 := (th_F_o hB.2.2 h0 ro_46 (j := 46) (by decide) (by decide)).symm.trans mb30
            refine lv_iload_n hx hb gX12_few_2.2.2.2.1 rfl (lv_at hl 3 rfl) ?_
            refine lv_iload_n hx hb gX12_few_2.2.2.2.2.1 rfl (lv_at hl 3 rfl) ?_
            have jn48 : ∀ (locs : List Loc) (ls : Array Slot) (s48_2 : Int64), th_B G Γ Γ [(68, 0)] H0 H26 locs → lv_has ls 6 [(0, .ref a0), (1, .int p1), (2, .int p2), (3, .int j26_3)] → W p l e ({ frames := 1, cells := 0, slots := 0, locals := 22 } : Room) s m ([.ref a0, .int p1, .int p2] : List Value).toArray below meth c H26 locs 0 0 (MQ below (th_Q (fun (v : Option Value) (H1 : Heap) => ∃ r : Int64, v = some (.long r) ∧ th_I G Γ H1 ∧ th_F G Γ [(68, 0)] H0 H1 ∧ th_RC G Γ H1) G) ([.ref a0, .int p1, .int p2] : List Value).toArray s 0 0 (fun q => G.1.2.2 ≤ q)) (F0 m 48 ls [.long s48_2, .int j26_3, .ref b30]) := by
              intro locs ls s48_2 hB hl
              refine th_lastF hC hB hb30 (Or.inl hb30) ro_68 rfl (by decide) (Eq.refl _) (by omega) (by omega) th_sLa gX12_few_3.2.1 (fun H48 locs hB hf48 hst48 => ?_)
              have hf := hf48
              have mm31 := (th_F_o hf h0 ro_46 (j := 46) (by decide) (by decide)).trans mb30
              have hR := th_RC_F hB.1 hR hf (th_T_s hb30 ro_68 hst48) (by decide)
              refine tr_iinc (fun x32 => [(3, .int x32), (0, .ref a0), (1, .int p1), (2, .int p2)]) hx hb gX12_few_3.2.2.1 hl (k := 3) rfl (Eq.refl _) tk_1 (by omega) (by omega) (by decide) (fun _ => rfl) (fun x32 ls ex32 hl => ?_)
              refine lv_goto (tgt := 26) hx hb gX12_few_3.2.2.2.1 (by decide) ?_
              exact ih26 H48 locs ls x32 hB hR (lv_sub hl [1, 2, 3, 0] rfl) (by omega) (by omega) (by omega)
            refine tr_if_ne (tgt := 47) hx hb gX12_few_2.2.2.2.2.2.1 (by decide) (Eq.refl _) (fun c38 => ?_) (fun c38 => ?_)
            · refine lv_lconst (v := 0) hx hb gX12_few_3.1 rfl ?_
              exact jn48 locs ls 0 hB (lv_sub hl [0, 1, 2, 3] rfl)
            · refine lv_ldc2 (v := 1000000000000) hx hb hC.2.2.2.1 (hC.2.2.2.2.1 _ kw_1904) gX12_few_2.2.2.2.2.2.2.1 ?_
              refine lv_goto (tgt := 48) hx hb gX12_few_2.2.2.2.2.2.2.2 (by decide) ?_
              exact jn48 locs ls 1000000000000 hB (lv_sub hl [0, 1, 2, 3] rfl)
      exact lp26 ((2147483648 : Int) - (0)).toNat H0 locs ls 0 hB hR (lv_sub hl [1, 2, 3, 0] rfl) (by decide) (by decide) (by have w0 := tk_0; omega)
    · refine lv_ldc2 (v := (-1)) hx hb hC.2.2.2.1 (hC.2.2.2.2.1 _ kw_1903) gX12_few_1.2.2.1 ?_
      exact th_lret hC hH hr hlocks hB.2.1 ⟨_, rfl, hB.1, hB.2.2, hR⟩ gX12_few_1.2.2.2.1

set_option maxHeartbeats 4000000 in
set_option maxRecDepth 100000 in
theorem c_X12_draws (l : Launch) (G : th_G) (Γ : th_Ga) (H0 : Heap) (hI : th_I G Γ H0) (hR : th_RC G Γ H0) (hU : dv_U Γ) (a0 : Nat) (h0 : Γ a0 = (46, 0)) (p1 : Int32) (f1 : 1 ≤ p1.toInt) (g1 : p1.toInt ≤ 12) : Met l yX12_draws (.code yX12_draws cX12_draws 2 (some FieldType.int) :: th_tb) ({ frames := 0, cells := 0, slots := 0, locals := 0 } : Room) (th_P [.ref a0, .int p1] G H0) (th_Q (fun (v : Option Value) (H1 : Heap) => ∃ r : Int32, v = some (.int r) ∧ 0 ≤ r.toInt ∧ r.toInt ≤ 11 ∧ (r.toInt < p1.toInt) ∧ th_I G Γ H1 ∧ th_F G Γ [(46, 56)] H0 H1 ∧ th_RC G Γ H1 ∧ (f_X12_draws (dv G Γ H0) (a0 : Int) p1.toInt = (dv G Γ H1, r.toInt))) G) 0 0 (fun q => G.1.2.2 ≤ q) := by
  refine th_met RX12 (by decide) rfl (Nat.le_of_ble_eq_true rfl) ?_
  intro p e s m below meth c hC hH hr hlocks hnm ls hl
  have hx := hC.1
  have hb := hC.2.1
  have hB : th_B G Γ Γ [(46, 56)] H0 H0 [] := ⟨hI, va_S.rf, th_F_rf⟩
  have hl : lv_has ls 2 [(0, .ref a0), (1, .int p1)] := hl
  have lp1 := ti_lo p1; have up1 := ti_hi p1
  obtain ⟨F, hF0⟩ : ∃ F, F = f_X12_draws (dv G Γ H0) ((a0 : Int)) (p1.toInt) := ⟨_, rfl⟩
  have hF := hF0.trans (f_X12_draws.eq_1 (dv G Γ H0) ((a0 : Int)) (p1.toInt))
  refine lv_aload_n hx hb gX12_draws_0.1 rfl (lv_at hl 0 rfl) ?_
  refine lv_ldc2 (v := 1103) hx hb hC.2.2.2.1 (hC.2.2.2.2.1 _ kw_1946) gX12_draws_0.2.1 ?_
  refine lv_aload_n hx hb gX12_draws_0.2.2.1 rfl (lv_at hl 0 rfl) ?_
  refine th_getI (j := 56) hC cf_X12 hB.1 h0 ro_46 rfl rfl kf_X12_516 gX12_draws_0.2.2.2.1 (fun x1 mx1 lx1 ux1 => ?_)
  replace hF := hF.trans (dv_bn (dv_getI h0 ro_46 (j := 56) rfl mx1 (by decide)))
  refine lv_i2l hx hb gX12_draws_0.2.2.2.2.1 rfl ?_
  refine lv_topl (fun y2 ey2 => ?_)
  replace hF := hF.trans (dv_bn (dv_i2l_e (Eq.refl _) ey2))
  refine lv_lmul hx hb gX12_draws_0.2.2.2.2.2.1 ?_
  refine lv_topl (fun y3 ey3 => ?_)
  replace hF := hF.trans (dv_bn (dv_lmul_e (rfl : (1103 : Int64).toInt = 1103) (Eq.refl (y2.toInt)) ey3))
  refine lv_ldc2 (v := 12345) hx hb hC.2.2.2.1 (hC.2.2.2.2.1 _ kw_1947) gX12_draws_0.2.2.2.2.2.2.1 ?_
  refine lv_ladd hx hb gX12_draws_0.2.2.2.2.2.2.2 ?_
  refine lv_topl (fun y4 ey4 => ?_)
  replace hF := hF.trans (dv_bn (dv_ladd_e (Eq.refl (y3.toInt)) (rfl : (12345 : Int64).toInt = 12345) ey4))
  refine lv_ldc2 (v := 1000003) hx hb hC.2.2.2.1 (hC.2.2.2.2.1 _ kw_1948) gX12_draws_1.1 ?_
  refine lv_lrem hx hb gX12_draws_1.2.1 (by decide) ?_
  refine lv_topl (fun y5 ey5 => ?_)
  replace hF := hF.trans (dv_bn (dv_lrem_e (Eq.refl (y4.toInt)) (rfl : (1000003 : Int64).toInt = 1000003) ey5))
  refine lv_l2i hx hb gX12_draws_1.2.2.1 rfl ?_
  refine lv_topi (fun x6 ex6 => ?_)
  have lx6 := ti_lo x6; have ux6 := ti_hi x6
  replace hF := hF.trans (dv_bn (dv_l2i_e (Eq.refl (y5.toInt)) ex6))
  have f18 := mo_dr (show 0 ≤ x1.toInt by omega) (show x1.toInt ≤ 1000002 by omega) ey2 ey3 ey4 ey5 ex6
  refine th_put hC cf_X12 hB h0 (Or.inl h0) ro_46 rfl (j := 56) rfl (th_sI (by omega) (by omega)) (by decide) rfl rfl rfl kf_X12_516 gX12_draws_1.2.2.2.1 (fun H19 locs hB hf hst19 => ?_)
  have hR := th_RC_F hB.1 hR hf (th_T_s h0 ro_46 hst19) (by decide)
  replace hF := hF.trans (dv_bn (dv_putI hB.1 h0 ro_46 (j := 56) rfl (th_apart hC cf_X12) hst19 (Eq.refl _) (by decide)))
  have mm7 := hst19.2.1
  refine lv_aload_n hx hb gX12_draws_1.2.2.2.2.1 rfl (lv_at hl 0 rfl) ?_
  refine th_getK hC cf_X12 hB.1 h0 ro_46 rfl (j := 56) (by decide) mm7 kf_X12_516 gX12_draws_1.2.2.2.2.2.1 ?_
  replace hF := hF.trans (dv_bn (dv_getI h0 ro_46 (j := 56) rfl mm7 (by decide)))
  refine lv_iload_n hx hb gX12_draws_1.2.2.2.2.2.2.1 rfl (lv_at hl 1 rfl) ?_
  refine tr_irem hx hb gX12_draws_1.2.2.2.2.2.2.2 (Eq.refl _) (Eq.refl _) (by omega) (by omega) (fun x8 ex8 => ?_)
  have fx8 := ti_remb (a := x6.toInt) (b := p1.toInt) (by omega) (by omega)
  rw [← ex8] at fx8
  replace hF := hF.trans (dv_bn (ex8.symm))
  exact th_iret hC hH hr hlocks rfl hB.2.1 ⟨_, rfl, by omega, by omega, by intros; omega, hB.1, hB.2.2, hR, (hF0.symm.trans hF)⟩ gX12_draws_2

set_option maxHeartbeats 4000000 in
set_option maxRecDepth 100000 in
theorem c_X12_turnsSquare (l : Launch) (G : th_G) (Γ : th_Ga) (H0 : Heap) (hI : th_I G Γ H0) (hR : th_RC G Γ H0) (hU : dv_U Γ) (a0 : Nat) (h0 : Γ a0 = (46, 0)) (p1 : Int32) (f1 : 0 ≤ p1.toInt) (g1 : p1.toInt ≤ 12) (p2 : Int32) (f2 : 0 ≤ p2.toInt) (g2 : p2.toInt ≤ 11) (p3 : Int32) (f3 : 0 ≤ p3.toInt) (g3 : p3.toInt ≤ 11) (k1 : p3.toInt + p1.toInt ≤ 12) : Met l yX12_turnsSquare (.code yX12_turnsSquare cX12_turnsSquare 5 (none) :: th_tb) ({ frames := 0, cells := 0, slots := 0, locals := 0 } : Room) (th_P [.ref a0, .int p1, .int p2, .int p3] G H0) (th_Q (fun (v : Option Value) (H1 : Heap) => v = none ∧ th_I G Γ H1 ∧ th_F G Γ [(59, 0)] H0 H1 ∧ th_RC G Γ H1 ∧ (∀ z : Int, mo_x G H1 a0 29 z = if p3.toInt ≤ z ∧ z < p3.toInt + p1.toInt then mo_x G H0 a0 29 z ^^^ mo_mk p1 p2 else mo_x G H0 a0 29 z) ∧ (f_X12_turnsSquare (dv G Γ H0) (a0 : Int) p1.toInt p2.toInt p3.toInt = (dv G Γ H1, 0))) G) 0 0 (fun q => G.1.2.2 ≤ q) := by
  refine th_met RX12 (by decide) rfl (Nat.le_of_ble_eq_true rfl) ?_
  intro p e s m below meth c hC hH hr hlocks hnm ls hl
  have hx := hC.1
  have hb := hC.2.1
  have hB : th_B G Γ Γ [(59, 0)] H0 H0 [] := ⟨hI, va_S.rf, th_F_rf⟩
  have hl : lv_has ls 5 [(0, .ref a0), (1, .int p1), (2, .int p2), (3, .int p3)] := hl
  have lp1 := ti_lo p1; have up1 := ti_hi p1
  have lp2 := ti_lo p2; have up2 := ti_hi p2
  have lp3 := ti_lo p3; have up3 := ti_hi p3
  obtain ⟨F, hF0⟩ : ∃ F, F = f_X12_turnsSquare (dv G Γ H0) ((a0 : Int)) (p1.toInt) (p2.toInt) (p3.toInt) := ⟨_, rfl⟩
  have hF := hF0.trans (f_X12_turnsSquare.eq_1 (dv G Γ H0) ((a0 : Int)) (p1.toInt) (p2.toInt) (p3.toInt))
  refine lv_iload_n hx hb gX12_turnsSquare_0.1 rfl (lv_at hl 3 rfl) ?_
  refine lv_istore (lv' := [(4, .int p3), (0, .ref a0), (1, .int p1), (2, .int p2), (3, .int p3)]) hx hb gX12_turnsSquare_0.2.1 hl (by decide) rfl (fun ls hl => ?_)
  have lp3 : ∀ (n3 : Nat) (H3 : Heap) (locs : List Loc) (ls : Array Slot) (j3_4 : Int32), th_B G Γ Γ [(59, 0)] H0 H3 locs → th_RC G Γ H3 → lv_has ls 5 [(0, .ref a0), (1, .int p1), (2, .int p2), (3, .int p3), (4, .int j3_4)] → F = dv_lp f_X12_turnsSquare_3b (dv G Γ H3, (a0 : Int), p1.toInt, p2.toInt, p3.toInt, j3_4.toInt) → 0 ≤ j3_4.toInt → j3_4.toInt ≤ 12 → p3.toInt ≤ j3_4.toInt → j3_4.toInt ≤ p3.toInt + p1.toInt → (∀ z : Int, mo_x G H3 a0 29 z = if p3.toInt ≤ z ∧ z < j3_4.toInt then mo_x G H0 a0 29 z ^^^ mo_mk p1 p2 else mo_x G H0 a0 29 z) → (2147483648 : Int) - j3_4.toInt ≤ (n3 : Int) → W p l e ({ frames := 0, cells := 0, slots := 0, locals := 0 } : Room) s m ([.ref a0, .int p1, .int p2, .int p3] : List Value).toArray below meth c H3 locs 0 0 (MQ below (th_Q (fun (v : Option Value) (H1 : Heap) => v = none ∧ th_I G Γ H1 ∧ th_F G Γ [(59, 0)] H0 H1 ∧ th_RC G Γ H1 ∧ (∀ z : Int, mo_x G H1 a0 29 z = if p3.toInt ≤ z ∧ z < p3.toInt + p1.toInt then mo_x G H0 a0 29 z ^^^ mo_mk p1 p2 else mo_x G H0 a0 29 z) ∧ (f_X12_turnsSquare (dv G Γ H0) (a0 : Int) p1.toInt p2.toInt p3.toInt = (dv G Γ H1, 0))) G) ([.ref a0, .int p1, .int p2, .int p3] : List Value).toArray s 0 0 (fun q => G.1.2.2 ≤ q)) (F0 m 3 ls []) := by
    intro n3
    induction n3 with
    | zero => intro H3 locs ls j3_4 hB hR hl hF g3_0 g3_1 g3_2 g3_3 g3_4 hm3; exact absurd hm3 (by have := ti_hi j3_4; omega)
    | succ n3 ih3 =>
      intro H3 locs ls j3_4 hB hR hl hF g3_0 g3_1 g3_2 g3_3 g3_4 hm3
      have lj3_4 := ti_lo j3_4; have uj3_4 := ti_hi j3_4
      have hm3 : (2147483648 : Int) - j3_4.toInt ≤ (n3 : Int) + 1 := by omega
      replace hF := hF.trans (dv_lp_eq)
      replace hF := hF.trans (congrArg (dv_k f_X12_turnsSquare_3b) (f_X12_turnsSquare_3c.eq_1 (dv G Γ H3) ((a0 : Int)) (p1.toInt) (p2.toInt) (p3.toInt) (j3_4.toInt)))
      refine lv_iload hx hb gX12_turnsSquare_0.2.2.1 (lv_at hl 4 rfl) ?_
      refine lv_iload_n hx hb gX12_turnsSquare_0.2.2.2.1 rfl (lv_at hl 3 rfl) ?_
      refine lv_iload_n hx hb gX12_turnsSquare_0.2.2.2.2.1 rfl (lv_at hl 1 rfl) ?_
      refine tr_iadd hx hb gX12_turnsSquare_0.2.2.2.2.2.1 (Eq.refl _) (Eq.refl _) (by omega) (by omega) (fun x1 ex1 => ?_)
      replace hF := hF.trans (congrArg (dv_k f_X12_turnsSquare_3b) (dv_bn (ex1.symm)))
      refine tr_icmp_ge (tgt := 34) hx hb gX12_turnsSquare_0.2.2.2.2.2.2.1 (by decide) (Eq.refl _) (Eq.refl _) (fun c8 => ?_) (fun c8 => ?_)
      · replace hF := hF.trans (congrArg (dv_k f_X12_turnsSquare_3b) (if_pos c8))
        replace hF := hF.trans (dv_kr)
        exact th_vret hC hH hr hlocks hB.2.1 ⟨rfl, hB.1, hB.2.2, hR, fun z => by rw [show p3.toInt + p1.toInt = j3_4.toInt by omega]; exact g3_4 z, (hF0.symm.trans hF)⟩ gX12_turnsSquare_2.2.2.2.2.2.2.2
      · replace hF := hF.trans (congrArg (dv_k f_X12_turnsSquare_3b) (if_neg (Int.not_le.mpr c8)))
        refine lv_aload_n hx hb gX12_turnsSquare_0.2.2.2.2.2.2.2 rfl (lv_at hl 0 rfl) ?_
        refine th_getO (j := 29) (r2 := 59) hC cf_X12 hB.1 h0 ro_46 rfl rfl kf_X12_66 gX12_turnsSquare_1.1 (fun b2 mb2 hb2 => ?_)
        have sb2 := (th_F_o hB.2.2 h0 ro_46 (j := 29) (by decide) (by decide)).symm.trans mb2
        refine lv_iload hx hb gX12_turnsSquare_1.2.1 (lv_at hl 4 rfl) ?_
        refine lv_dup2_11 hx hb gX12_turnsSquare_1.2.2.1 rfl rfl ?_
        refine th_ialdF hC hB.1 hb2 ro_59 rfl (Eq.refl _) (by omega) (by omega) rfl gX12_turnsSquare_1.2.2.2.1 (fun x3 mx3 lx3 ux3 => ?_)
        replace hF := hF.trans (congrArg (dv_k f_X12_turnsSquare_3b) (dv_bn (dv_aldI hB.1 hU hb2 ow_59 (z := j3_4.toInt) mx3 (by omega))))
        have vgx3 : mo_x G H3 a0 29 j3_4.toInt = x3 := by rw [show (j3_4.toInt : Int) = j3_4.toInt by omega]; exact mo_xat mb2 mx3 (by omega)
        refine lv_iconst (v := 1) hx hb gX12_turnsSquare_1.2.2.2.2.1 (by decide) ?_
        refine lv_iload_n hx hb gX12_turnsSquare_1.2.2.2.2.2.1 rfl (lv_at hl 1 rfl) ?_
        refine lv_ishl hx hb gX12_turnsSquare_1.2.2.2.2.2.2.1 ?_
        refine lv_topi (fun x4 ex4 => ?_)
        have lx4 := ti_lo x4; have ux4 := ti_hi x4
        replace hF := hF.trans (congrArg (dv_k f_X12_turnsSquare_3b) (dv_bn (dv_shl_e tk_1 (Eq.refl _) ex4)))
        refine lv_iconst (v := 1) hx hb gX12_turnsSquare_1.2.2.2.2.2.2.2 (by decide) ?_
        refine lv_isub hx hb gX12_turnsSquare_2.1 ?_
        refine lv_topi (fun x5 ex5 => ?_)
        have lx5 := ti_lo x5; have ux5 := ti_hi x5
        replace hF := hF.trans (congrArg (dv_k f_X12_turnsSquare_3b) (dv_bn (dv_sub_e (Eq.refl _) tk_1 ex5)))
        refine lv_iload_n hx hb gX12_turnsSquare_2.2.1 rfl (lv_at hl 2 rfl) ?_
        refine lv_ishl hx hb gX12_turnsSquare_2.2.2.1 ?_
        refine lv_topi (fun x6 ex6 => ?_)
        have lx6 := ti_lo x6; have ux6 := ti_hi x6
        replace hF := hF.trans (congrArg (dv_k f_X12_turnsSquare_3b) (dv_bn (dv_shl_e (Eq.refl _) (Eq.refl _) ex6)))
        refine lv_ixor hx hb gX12_turnsSquare_2.2.2.2.1 ?_
        refine lv_topi (fun x7 ex7 => ?_)
        have lx7 := ti_lo x7; have ux7 := ti_hi x7
        replace hF := hF.trans (congrArg (dv_k f_X12_turnsSquare_3b) (dv_bn (dv_xor_e (Eq.refl _) (Eq.refl _) ex7)))
        have hIo := hB.1
        refine th_iastF hC hB hb2 (Or.inl hb2) ro_59 rfl (by decide) (Eq.refl _) (by omega) (by omega) th_sIa gX12_turnsSquare_2.2.2.2.2.1 (fun H27 locs hB hf27 hst27 => ?_)
        have hf := hf27
        have mm8 := (th_F_o hf h0 ro_46 (j := 29) (by decide) (by decide)).trans mb2
        have hR := th_RC_F hB.1 hR hf (th_T_s hb2 ro_59 hst27) (by decide)
        replace hF := hF.trans (congrArg (dv_k f_X12_turnsSquare_3b) (dv_bn (dv_stoI hIo hB.1 hU hb2 ow_59 (i := j3_4.toInt) hst27 (Eq.refl _) (by omega))))
        have vs27 : mo_x G H27 a0 29 = mo_u (mo_x G H3 a0 29) j3_4.toInt x7 := by rw [show (j3_4.toInt : Int) = j3_4.toInt by omega]; exact mo_x_st h0 hb2 (by decide) mb2 hst27 (by omega)
        refine tr_iinc (fun x9 => [(4, .int x9), (0, .ref a0), (1, .int p1), (2, .int p2), (3, .int p3)]) hx hb gX12_turnsSquare_2.2.2.2.2.2.1 hl (k := 4) rfl (Eq.refl _) tk_1 (by omega) (by omega) (by decide) (fun _ => rfl) (fun x9 ls ex9 hl => ?_)
        replace hF := hF.trans (congrArg (dv_k f_X12_turnsSquare_3b) (dv_bn (ex9.symm)))
        refine lv_goto (tgt := 3) hx hb gX12_turnsSquare_2.2.2.2.2.2.2.1 (by decide) ?_
        replace hF := hF.trans (dv_kl)
        exact ih3 H27 locs ls x9 hB hR (lv_sub hl [1, 2, 3, 4, 0] rfl) hF (by omega) (by omega) (by omega) (by omega) (fun z => by rw [vs27]; by_cases q9 : z = j3_4.toInt; rw [mo_us q9, if_pos (by omega), ex7, ← vgx3, g3_4, if_neg (by omega), mo_mk, ← ex4, ← ex5, ← ex6, q9]; rw [mo_un q9, g3_4]; by_cases q8 : p3.toInt ≤ z ∧ z < j3_4.toInt; rw [if_pos q8, if_pos (by omega)]; rw [if_neg q8, if_neg (by omega)]) (by omega)
  exact lp3 ((2147483648 : Int) - (p3.toInt)).toNat H0 [] ls p3 hB hR (lv_sub hl [1, 2, 3, 4, 0] rfl) hF (by omega) (by omega) (by omega) (by omega) (fun z => by rw [if_neg (by omega)]) (by omega)
end
section
set_option maxHeartbeats 4000000 in
set_option maxRecDepth 100000 in
theorem c_X12_laysCovered (l : Launch) (G : th_G) (Γ : th_Ga) (H0 : Heap) (hI : th_I G Γ H0) (hU : dv_U Γ) (a0 : Nat) (h0 : Γ a0 = (46, 0)) (hR : th_RK a0 G Γ H0) : Met l yX12_laysCovered (.code yX12_laysCovered cX12_laysCovered 2 (none) :: th_tb) ({ frames := 1, cells := 0, slots := 0, locals := 24 } : Room) (th_P [.ref a0] G H0) (th_Q (fun (v : Option Value) (H1 : Heap) => v = none ∧ th_I G Γ H1 ∧ th_F G Γ [(59, 0)] H0 H1 ∧ th_RK a0 G Γ H1 ∧ (mo_cv (mo_v G H0 a0 2) (mo_x G H1 a0 29)) ∧ (f_X12_laysCovered (dv G Γ H0) (a0 : Int) = (dv G Γ H1, 0))) G) 0 0 (fun q => G.1.2.2 ≤ q) := by
  refine th_met RX12 (by decide) rfl (Nat.le_of_ble_eq_true rfl) ?_
  intro p e s m below meth c hC hH hr hlocks hnm ls hl
  have hx := hC.1
  have hb := hC.2.1
  have hB : th_B G Γ Γ [(59, 0)] H0 H0 [] := ⟨hI, va_S.rf, th_F_rf⟩
  have hl : lv_has ls 2 [(0, .ref a0)] := hl
  obtain ⟨F, hF0⟩ : ∃ F, F = f_X12_laysCovered (dv G Γ H0) ((a0 : Int)) := ⟨_, rfl⟩
  have hF := hF0.trans (f_X12_laysCovered.eq_1 (dv G Γ H0) ((a0 : Int)))
  refine lv_iconst (v := 0) hx hb gX12_laysCovered_0.1 (by decide) ?_
  have hR0 := hR
  refine lv_istore_n (lv' := [(1, .int 0), (0, .ref a0)]) hx hb gX12_laysCovered_0.2.1 rfl hl (by decide) rfl (fun ls hl => ?_)
  have lp2 : ∀ (n2 : Nat) (H2 : Heap) (locs : List Loc) (ls : Array Slot) (j2_1 : Int32), th_B G Γ Γ [(59, 0)] H0 H2 locs → th_RK a0 G Γ H2 → lv_has ls 2 [(0, .ref a0), (1, .int j2_1)] → F = dv_lp f_X12_laysCovered_2b (dv G Γ H2, (a0 : Int), j2_1.toInt) → 0 ≤ j2_1.toInt → j2_1.toInt ≤ 12 → (∀ z : Int, 0 ≤ z → z < j2_1.toInt → mo_x G H2 a0 29 z = 0) → (2147483648 : Int) - j2_1.toInt ≤ (n2 : Int) → W p l e ({ frames := 1, cells := 0, slots := 0, locals := 24 } : Room) s m ([.ref a0] : List Value).toArray below meth c H2 locs 0 0 (MQ below (th_Q (fun (v : Option Value) (H1 : Heap) => v = none ∧ th_I G Γ H1 ∧ th_F G Γ [(59, 0)] H0 H1 ∧ th_RK a0 G Γ H1 ∧ (mo_cv (mo_v G H0 a0 2) (mo_x G H1 a0 29)) ∧ (f_X12_laysCovered (dv G Γ H0) (a0 : Int) = (dv G Γ H1, 0))) G) ([.ref a0] : List Value).toArray s 0 0 (fun q => G.1.2.2 ≤ q)) (F0 m 2 ls []) := by
    intro n2
    induction n2 with
    | zero => intro H2 locs ls j2_1 hB hR hl hF g2_0 g2_1 g2_2 hm2; exact absurd hm2 (by have := ti_hi j2_1; omega)
    | succ n2 ih2 =>
      intro H2 locs ls j2_1 hB hR hl hF g2_0 g2_1 g2_2 hm2
      have lj2_1 := ti_lo j2_1; have uj2_1 := ti_hi j2_1
      have vw_H2_2 : mo_v G H2 a0 2 = mo_v G H0 a0 2 := mo_v_F (r := 48) hB.1 hB.2.2 h0 rfl ro_48 (by decide) (by decide)
      have hm2 : (2147483648 : Int) - j2_1.toInt ≤ (n2 : Int) + 1 := by omega
      replace hF := hF.trans (dv_lp_eq)
      replace hF := hF.trans (congrArg (dv_k f_X12_laysCovered_2b) (f_X12_laysCovered_2c.eq_1 (dv G Γ H2) ((a0 : Int)) (j2_1.toInt)))
      refine lv_iload_n hx hb gX12_laysCovered_0.2.2.1 rfl (lv_at hl 1 rfl) ?_
      refine lv_bipush (v := 12) hx hb gX12_laysCovered_0.2.2.2.1 (by decide) ?_
      refine tr_icmp_ge (tgt := 21) hx hb gX12_laysCovered_0.2.2.2.2.1 (by decide) (Eq.refl _) tk_12 (fun c5 => ?_) (fun c5 => ?_)
      · replace hF := hF.trans (congrArg (dv_k f_X12_laysCovered_2b) (if_pos c5))
        refine lv_iconst (v := 0) hx hb gX12_laysCovered_1.2.2.2.2.1 (by decide) ?_
        refine lv_istore_n (lv' := [(1, .int 0), (0, .ref a0)]) hx hb gX12_laysCovered_1.2.2.2.2.2.1 rfl hl (by decide) rfl (fun ls hl => ?_)
        have r69 := mo_many hI h0
        have lp23 : ∀ (n23 : Nat) (H23 : Heap) (locs : List Loc) (ls : Array Slot) (j23_1 : Int32), th_B G Γ Γ [(59, 0)] H0 H23 locs → th_RK a0 G Γ H23 → lv_has ls 2 [(0, .ref a0), (1, .int j23_1)] → F = dv_k f_X12_laysCovered_2b (dv_lp f_X12_laysCovered_23b (dv G Γ H23, (a0 : Int), j23_1.toInt)) → 0 ≤ j23_1.toInt → j23_1.toInt ≤ 9 → mo_cw (mo_v G H0 a0 2) (mo_x G H23 a0 29) j23_1.toInt → j23_1.toInt ≤ mo_v G H0 a0 2 69 → (2147483648 : Int) - j23_1.toInt ≤ (n23 : Int) → W p l e ({ frames := 1, cells := 0, slots := 0, locals := 24 } : Room) s m ([.ref a0] : List Value).toArray below meth c H23 locs 0 0 (MQ below (th_Q (fun (v : Option Value) (H1 : Heap) => v = none ∧ th_I G Γ H1 ∧ th_F G Γ [(59, 0)] H0 H1 ∧ th_RK a0 G Γ H1 ∧ (mo_cv (mo_v G H0 a0 2) (mo_x G H1 a0 29)) ∧ (f_X12_laysCovered (dv G Γ H0) (a0 : Int) = (dv G Γ H1, 0))) G) ([.ref a0] : List Value).toArray s 0 0 (fun q => G.1.2.2 ≤ q)) (F0 m 23 ls []) := by
          intro n23
          induction n23 with
          | zero => intro H23 locs ls j23_1 hB hR hl hF g23_0 g23_1 g23_2 g23_3 hm23; exact absurd hm23 (by have := ti_hi j23_1; omega)
          | succ n23 ih23 =>
            intro H23 locs ls j23_1 hB hR hl hF g23_0 g23_1 g23_2 g23_3 hm23
            have lj23_1 := ti_lo j23_1; have uj23_1 := ti_hi j23_1
            have vw_H23_2 : mo_v G H23 a0 2 = mo_v G H0 a0 2 := mo_v_F (r := 48) hB.1 hB.2.2 h0 rfl ro_48 (by decide) (by decide)
            have hm23 : (2147483648 : Int) - j23_1.toInt ≤ (n23 : Int) + 1 := by omega
            replace hF := hF.trans (congrArg (dv_k f_X12_laysCovered_2b) (dv_lp_eq))
            replace hF := hF.trans (congrArg (dv_k f_X12_laysCovered_2b) (congrArg (dv_k f_X12_laysCovered_23b) (f_X12_laysCovered_23c.eq_1 (dv G Γ H23) ((a0 : Int)) (j23_1.toInt))))
            refine lv_iload_n hx hb gX12_laysCovered_1.2.2.2.2.2.2.1 rfl (lv_at hl 1 rfl) ?_
            refine lv_aload_n hx hb gX12_laysCovered_1.2.2.2.2.2.2.2 rfl (lv_at hl 0 rfl) ?_
            refine th_call (th_runV (As := []) (rest := [.int j23_1]) hC mf_X12_many km_X12_115 im_X12_many se_X12_many (c_X12_many l G Γ H23 hB.1 hU a0 h0) rfl rfl ⟨Nat.le_of_ble_eq_true rfl, Nat.le_of_ble_eq_true rfl⟩ hB.1 h0 ro_46 rfl rfl hl.1 rfl (Nat.le_of_ble_eq_true rfl) gX12_laysCovered_2.1 ⟨Nat.le_refl _, Nat.le_refl _⟩) hB.2.1 (fun v25 H25 locs hp hz hS => ?_)
            obtain ⟨x1, rfl, lx1, ux1, q25_0, q25_1, rfl⟩ := hp
            have hB := th_B_s hB hS
            rw [(mo_v_F (r := 48) hB.1 hB.2.2 h0 rfl ro_48 (by decide) (by decide) : mo_v G H23 a0 2 = mo_v G H0 a0 2)] at q25_0
            replace hF := hF.trans (congrArg (dv_k f_X12_laysCovered_2b) (congrArg (dv_k f_X12_laysCovered_23b) (dv_bn2 (q25_1))))
            refine W.eq (g2 := F0 m 28 ls [.int x1, .int j23_1]) rfl ?_
            refine tr_icmp_ge (tgt := 76) hx hb gX12_laysCovered_2.2.1 (by decide) (Eq.refl _) (Eq.refl _) (fun c28 => ?_) (fun c28 => ?_)
            · replace hF := hF.trans (congrArg (dv_k f_X12_laysCovered_2b) (congrArg (dv_k f_X12_laysCovered_23b) (if_pos c28)))
              replace hF := hF.trans (congrArg (dv_k f_X12_laysCovered_2b) (dv_kr))
              replace hF := hF.trans (dv_kr)
              exact th_vret hC hH hr hlocks hB.2.1 ⟨rfl, hB.1, hB.2.2, hR, (by have q9 := g23_2; rw [show j23_1.toInt = mo_v G H0 a0 2 69 by omega] at q9; exact q9), (hF0.symm.trans hF)⟩ gX12_laysCovered_5.2.2.2.2
            · replace hF := hF.trans (congrArg (dv_k f_X12_laysCovered_2b) (congrArg (dv_k f_X12_laysCovered_23b) (if_neg (Int.not_le.mpr c28))))
              refine lv_aload_n hx hb gX12_laysCovered_2.2.2.1 rfl (lv_at hl 0 rfl) ?_
              refine lv_iload_n hx hb gX12_laysCovered_2.2.2.2.1 rfl (lv_at hl 1 rfl) ?_
              refine th_call (th_runV (As := [.int j23_1]) (rest := []) hC mf_X12_isLaid km_X12_137 im_X12_isLaid se_X12_isLaid (c_X12_isLaid l G Γ H23 hB.1 hU a0 h0 j23_1 (by omega) (by omega)) rfl rfl ⟨Nat.le_of_ble_eq_true rfl, Nat.le_of_ble_eq_true rfl⟩ hB.1 h0 ro_46 rfl rfl hl.1 rfl (Nat.le_of_ble_eq_true rfl) gX12_laysCovered_2.2.2.2.2.1 ⟨Nat.le_refl _, Nat.le_refl _⟩) hB.2.1 (fun v33 H33 locs hp hz hS => ?_)
              obtain ⟨x2, rfl, lx2, ux2, q33_0, q33_1, q33_2, rfl⟩ := hp
              have hB := th_B_s hB hS
              rw [(mo_v_F (r := 48) hB.1 hB.2.2 h0 rfl ro_48 (by decide) (by decide) : mo_v G H23 a0 2 = mo_v G H0 a0 2)] at q33_0
              rw [(mo_v_F (r := 48) hB.1 hB.2.2 h0 rfl ro_48 (by decide) (by decide) : mo_v G H23 a0 2 = mo_v G H0 a0 2)] at q33_1
              replace hF := hF.trans (congrArg (dv_k f_X12_laysCovered_2b) (congrArg (dv_k f_X12_laysCovered_23b) (dv_bn2 (q33_2))))
              refine W.eq (g2 := F0 m 36 ls [.int x2]) rfl ?_
              refine tr_if_eq (tgt := 70) hx hb gX12_laysCovered_2.2.2.2.2.2.1 (by decide) (Eq.refl _) (fun c36 => ?_) (fun c36 => ?_)
              · replace hF := hF.trans (congrArg (dv_k f_X12_laysCovered_2b) (congrArg (dv_k f_X12_laysCovered_23b) (if_pos c36)))
                refine tr_iinc (fun x3 => [(1, .int x3), (0, .ref a0)]) hx hb gX12_laysCovered_5.2.2.1 hl (k := 1) rfl (Eq.refl _) tk_1 (by omega) (by omega) (by decide) (fun _ => rfl) (fun x3 ls ex3 hl => ?_)
                replace hF := hF.trans (congrArg (dv_k f_X12_laysCovered_2b) (congrArg (dv_k f_X12_laysCovered_23b) (dv_bn (ex3.symm))))
                have cw70 := mo_cw_n (by omega) g23_2 (q33_1 (by omega))
                refine lv_goto (tgt := 23) hx hb gX12_laysCovered_5.2.2.2.1 (by decide) ?_
                replace hF := hF.trans (congrArg (dv_k f_X12_laysCovered_2b) (dv_kl))
                exact ih23 H23 locs ls x3 hB hR (lv_sub hl [1, 0] rfl) hF (by omega) (by omega) (by rw [show x3.toInt = j23_1.toInt + 1 by omega]; exact cw70) (by omega) (by omega)
              · replace hF := hF.trans (congrArg (dv_k f_X12_laysCovered_2b) (congrArg (dv_k f_X12_laysCovered_23b) (if_neg c36)))
                refine lv_aload_n hx hb gX12_laysCovered_2.2.2.2.2.2.2.1 rfl (lv_at hl 0 rfl) ?_
                have ge := hR0.2.2.1.2.1 j23_1.toInt (by omega) (by omega) (q33_0 (by omega))
                have hw := mo_wide hI h0; have hh := mo_high hI h0
                refine lv_aload_n hx hb gX12_laysCovered_2.2.2.2.2.2.2.2 rfl (lv_at hl 0 rfl) ?_
                refine th_getO (j := 2) (r2 := 48) hC cf_X12 hB.1 h0 ro_46 rfl rfl kf_X12_28 gX12_laysCovered_3.1 (fun b4 mb4 hb4 => ?_)
                have sb4 := (th_F_o hB.2.2 h0 ro_46 (j := 2) (by decide) (by decide)).symm.trans mb4
                refine lv_bipush (v := 29) hx hb gX12_laysCovered_3.2.1 (by decide) ?_
                refine lv_iload_n hx hb gX12_laysCovered_3.2.2.1 rfl (lv_at hl 1 rfl) ?_
                refine tr_iadd hx hb gX12_laysCovered_3.2.2.2.1 tk_29 (Eq.refl _) (by omega) (by omega) (fun x5 ex5 => ?_)
                replace hF := hF.trans (congrArg (dv_k f_X12_laysCovered_2b) (congrArg (dv_k f_X12_laysCovered_23b) (dv_bn (ex5.symm))))
                refine th_ialdF hC hB.1 hb4 ro_48 rfl (Eq.refl _) (by omega) (by omega) (ek_side (by omega) (by omega)) gX12_laysCovered_3.2.2.2.2.1 (fun x6 mx6 lx6 ux6 => ?_)
                replace hF := hF.trans (congrArg (dv_k f_X12_laysCovered_2b) (congrArg (dv_k f_X12_laysCovered_23b) (dv_bn (dv_aldI hB.1 hU hb4 ow_48 (z := x5.toInt) mx6 (by omega)))))
                have vgx6 : mo_v G H0 a0 2 (29 + j23_1.toInt) = x6.toInt := by rw [← (mo_v_F (r := 48) hB.1 hB.2.2 h0 rfl ro_48 (by decide) (by decide) : mo_v G H23 a0 2 = _)]; rw [show ((29 + j23_1.toInt) : Int) = x5.toInt by omega]; exact mo_vat mb4 mx6 (by omega)
                refine lv_aload_n hx hb gX12_laysCovered_3.2.2.2.2.2.1 rfl (lv_at hl 0 rfl) ?_
                refine th_getK hC cf_X12 hB.1 h0 ro_46 rfl (j := 2) (by decide) mb4 kf_X12_28 gX12_laysCovered_3.2.2.2.2.2.2.1 ?_
                refine lv_bipush (v := 9) hx hb gX12_laysCovered_3.2.2.2.2.2.2.2 (by decide) ?_
                refine lv_iload_n hx hb gX12_laysCovered_4.1 rfl (lv_at hl 1 rfl) ?_
                refine tr_iadd hx hb gX12_laysCovered_4.2.1 tk_9 (Eq.refl _) (by omega) (by omega) (fun x7 ex7 => ?_)
                replace hF := hF.trans (congrArg (dv_k f_X12_laysCovered_2b) (congrArg (dv_k f_X12_laysCovered_23b) (dv_bn (ex7.symm))))
                refine th_ialdF hC hB.1 hb4 ro_48 rfl (Eq.refl _) (by omega) (by omega) (ek_a (by omega) (by omega)) gX12_laysCovered_4.2.2.1 (fun x8 mx8 lx8 ux8 => ?_)
                replace hF := hF.trans (congrArg (dv_k f_X12_laysCovered_2b) (congrArg (dv_k f_X12_laysCovered_23b) (dv_bn (dv_aldI hB.1 hU hb4 ow_48 (z := x7.toInt) mx8 (by omega)))))
                have vgx8 : mo_v G H0 a0 2 (9 + j23_1.toInt) = x8.toInt := by rw [← (mo_v_F (r := 48) hB.1 hB.2.2 h0 rfl ro_48 (by decide) (by decide) : mo_v G H23 a0 2 = _)]; rw [show ((9 + j23_1.toInt) : Int) = x7.toInt by omega]; exact mo_vat mb4 mx8 (by omega)
                refine lv_aload_n hx hb gX12_laysCovered_4.2.2.2.1 rfl (lv_at hl 0 rfl) ?_
                refine th_getK hC cf_X12 hB.1 h0 ro_46 rfl (j := 2) (by decide) mb4 kf_X12_28 gX12_laysCovered_4.2.2.2.2.1 ?_
                refine lv_bipush (v := 18) hx hb gX12_laysCovered_4.2.2.2.2.2.1 (by decide) ?_
                refine lv_iload_n hx hb gX12_laysCovered_4.2.2.2.2.2.2.1 rfl (lv_at hl 1 rfl) ?_
                refine tr_iadd hx hb gX12_laysCovered_4.2.2.2.2.2.2.2 tk_18 (Eq.refl _) (by omega) (by omega) (fun x9 ex9 => ?_)
                replace hF := hF.trans (congrArg (dv_k f_X12_laysCovered_2b) (congrArg (dv_k f_X12_laysCovered_23b) (dv_bn (ex9.symm))))
                refine th_ialdF hC hB.1 hb4 ro_48 rfl (Eq.refl _) (by omega) (by omega) (ek_a (by omega) (by omega)) gX12_laysCovered_5.1 (fun x10 mx10 lx10 ux10 => ?_)
                replace hF := hF.trans (congrArg (dv_k f_X12_laysCovered_2b) (congrArg (dv_k f_X12_laysCovered_23b) (dv_bn (dv_aldI hB.1 hU hb4 ow_48 (z := x9.toInt) mx10 (by omega)))))
                have vgx10 : mo_v G H0 a0 2 (18 + j23_1.toInt) = x10.toInt := by rw [← (mo_v_F (r := 48) hB.1 hB.2.2 h0 rfl ro_48 (by decide) (by decide) : mo_v G H23 a0 2 = _)]; rw [show ((18 + j23_1.toInt) : Int) = x9.toInt by omega]; exact mo_vat mb4 mx10 (by omega)
                refine th_call (th_runV (As := [.int x6, .int x8, .int x10]) (rest := []) hC mf_X12_turnsSquare km_X12_345 im_X12_turnsSquare se_X12_turnsSquare (c_X12_turnsSquare l G Γ H23 hB.1 hR.1 hU a0 h0 x6 (by omega) (by omega) x8 (by omega) (by omega) x10 (by omega) (by omega) (by omega)) rfl rfl ⟨Nat.le_of_ble_eq_true rfl, Nat.le_of_ble_eq_true rfl⟩ hB.1 h0 ro_46 rfl rfl hl.1 rfl (Nat.le_of_ble_eq_true rfl) gX12_laysCovered_5.2.1 ⟨Nat.le_refl _, Nat.le_refl _⟩) hB.2.1 (fun v67 H67 locs hp hz hS => ?_)
                have hRD := hR
                obtain ⟨rfl, hI1, hf, hR, z67_0, z67_1⟩ := hp
                have hR := th_RK_c hR hRD hI1 h0 hf (by decide)
                have hB := th_B_c hB hI1 hS hf (by decide)
                have mm11 := (th_F_o hf h0 ro_46 (j := 2) (by decide) (by decide)).trans mb4
                have vv_H67_2 : mo_v G H67 a0 2 = mo_v G H23 a0 2 := mo_v_F (r := 48) hB.1 hf h0 rfl ro_48 (by decide) (by decide)
                replace hF := hF.trans (congrArg (dv_k f_X12_laysCovered_2b) (congrArg (dv_k f_X12_laysCovered_23b) (dv_bn2 (z67_1))))
                refine W.eq (g2 := F0 m 70 ls []) rfl ?_
                refine tr_iinc (fun x12 => [(1, .int x12), (0, .ref a0)]) hx hb gX12_laysCovered_5.2.2.1 hl (k := 1) rfl (Eq.refl _) tk_1 (by omega) (by omega) (by decide) (fun _ => rfl) (fun x12 ls ex12 hl => ?_)
                replace hF := hF.trans (congrArg (dv_k f_X12_laysCovered_2b) (congrArg (dv_k f_X12_laysCovered_23b) (dv_bn (ex12.symm))))
                have cw70 := mo_cw_s (by omega) g23_2 (q33_0 (by omega)) vgx6 vgx8 vgx10 (by omega) (by omega) (by omega) (by omega) z67_0
                refine lv_goto (tgt := 23) hx hb gX12_laysCovered_5.2.2.2.1 (by decide) ?_
                replace hF := hF.trans (congrArg (dv_k f_X12_laysCovered_2b) (dv_kl))
                exact ih23 H67 locs ls x12 hB hR (lv_sub hl [1, 0] rfl) hF (by omega) (by omega) (by rw [show x12.toInt = j23_1.toInt + 1 by omega]; exact cw70) (by omega) (by omega)
        exact lp23 ((2147483648 : Int) - (0)).toNat H2 locs ls 0 hB hR (lv_sub hl [1, 0] rfl) (by rw [tk_0]; exact hF) (by decide) (by decide) (by rw [show ((0 : Int32).toInt : Int) = 0 from rfl]; exact mo_cw_0 (fun z a9 b9 => g2_2 z a9 (by omega))) (by have w0 := tk_0; omega) (by have w0 := tk_0; omega)
      · replace hF := hF.trans (congrArg (dv_k f_X12_laysCovered_2b) (if_neg (Int.not_le.mpr c5)))
        refine lv_aload_n hx hb gX12_laysCovered_0.2.2.2.2.2.1 rfl (lv_at hl 0 rfl) ?_
        refine th_getO (j := 29) (r2 := 59) hC cf_X12 hB.1 h0 ro_46 rfl rfl kf_X12_66 gX12_laysCovered_0.2.2.2.2.2.2.1 (fun b13 mb13 hb13 => ?_)
        have sb13 := (th_F_o hB.2.2 h0 ro_46 (j := 29) (by decide) (by decide)).symm.trans mb13
        refine lv_iload_n hx hb gX12_laysCovered_0.2.2.2.2.2.2.2 rfl (lv_at hl 1 rfl) ?_
        refine lv_iconst (v := 0) hx hb gX12_laysCovered_1.1 (by decide) ?_
        have hIo := hB.1
        refine th_iastF hC hB hb13 (Or.inl hb13) ro_59 rfl (by decide) (Eq.refl _) (by omega) (by omega) th_sIa gX12_laysCovered_1.2.1 (fun H14 locs hB hf14 hst14 => ?_)
        have hf := hf14
        have mm14 := (th_F_o hf h0 ro_46 (j := 29) (by decide) (by decide)).trans mb13
        have hR := th_RK_F hB.1 hR h0 hf (th_T_s hb13 ro_59 hst14) (by decide)
        have vv_H14_2 : mo_v G H14 a0 2 = mo_v G H2 a0 2 := mo_v_F (r := 48) hB.1 hf h0 rfl ro_48 (by decide) (by decide)
        replace hF := hF.trans (congrArg (dv_k f_X12_laysCovered_2b) (dv_bn (dv_stoI hIo hB.1 hU hb13 ow_59 (i := j2_1.toInt) hst14 tk_0 (by omega))))
        have vs14 : mo_x G H14 a0 29 = mo_u (mo_x G H2 a0 29) j2_1.toInt 0 := by rw [show (j2_1.toInt : Int) = j2_1.toInt by omega]; exact mo_x_st h0 hb13 (by decide) mb13 hst14 (by omega)
        refine tr_iinc (fun x15 => [(1, .int x15), (0, .ref a0)]) hx hb gX12_laysCovered_1.2.2.1 hl (k := 1) rfl (Eq.refl _) tk_1 (by omega) (by omega) (by decide) (fun _ => rfl) (fun x15 ls ex15 hl => ?_)
        replace hF := hF.trans (congrArg (dv_k f_X12_laysCovered_2b) (dv_bn (ex15.symm)))
        refine lv_goto (tgt := 2) hx hb gX12_laysCovered_1.2.2.2.1 (by decide) ?_
        replace hF := hF.trans (dv_kl)
        exact ih2 H14 locs ls x15 hB hR (lv_sub hl [1, 0] rfl) hF (by omega) (by omega) (fun z a9 b9 => by rw [vs14]; by_cases q9 : z = j2_1.toInt; rw [mo_us q9]; rw [mo_un q9]; exact g2_2 z a9 (by omega)) (by omega)
  exact lp2 ((2147483648 : Int) - (0)).toNat H0 [] ls 0 hB hR (lv_sub hl [1, 0] rfl) (by rw [tk_0]; exact hF) (by decide) (by decide) (fun z a9 b9 => by have w0 := tk_0; omega) (by have w0 := tk_0; omega)

set_option maxHeartbeats 4000000 in
set_option maxRecDepth 100000 in
theorem c_X12_canLay (l : Launch) (G : th_G) (Γ : th_Ga) (H0 : Heap) (hI : th_I G Γ H0) (hU : dv_U Γ) (a0 : Nat) (h0 : Γ a0 = (46, 0)) (hR : th_RK a0 G Γ H0) (p1 : Int32) (f1 : 0 ≤ p1.toInt) (g1 : p1.toInt ≤ 8) (p2 : Int32) (f2 : 0 ≤ p2.toInt) (g2 : p2.toInt ≤ 11) (p3 : Int32) (f3 : 0 ≤ p3.toInt) (g3 : p3.toInt ≤ 11) (k1 : p1.toInt < mo_v G H0 a0 2 69) : Met l yX12_canLay (.code yX12_canLay cX12_canLay 4 (some FieldType.boolean) :: th_tb) ({ frames := 52, cells := 0, slots := 0, locals := 1650 } : Room) (th_P [.ref a0, .int p1, .int p2, .int p3] G H0) (th_Q (fun (v : Option Value) (H1 : Heap) => ∃ r : Int32, v = some (.int r) ∧ 0 ≤ r.toInt ∧ r.toInt ≤ 1 ∧ (r.toInt = 1 → mo_v G H0 a0 2 (9 + p1.toInt) = -1 ∧ mo_fr (mo_v G H0 a0 2) p1.toInt p2.toInt p3.toInt) ∧ th_I G Γ H1 ∧ th_F G Γ [(59, 0), (46, 22), (46, 24), (58, 0), (46, 23), (46, 25)] H0 H1 ∧ th_RK a0 G Γ H1 ∧ (f_X12_canLay (dv G Γ H0) (a0 : Int) p1.toInt p2.toInt p3.toInt = (dv G Γ H1, r.toInt))) G) 0 0 (fun q => G.1.2.2 ≤ q) := by
  refine th_met RX12 (by decide) rfl (Nat.le_of_ble_eq_true rfl) ?_
  intro p e s m below meth c hC hH hr hlocks hnm ls hl
  have hx := hC.1
  have hb := hC.2.1
  have hB : th_B G Γ Γ [(59, 0), (46, 22), (46, 24), (58, 0), (46, 23), (46, 25)] H0 H0 [] := ⟨hI, va_S.rf, th_F_rf⟩
  have hl : lv_has ls 4 [(0, .ref a0), (1, .int p1), (2, .int p2), (3, .int p3)] := hl
  have lp1 := ti_lo p1; have up1 := ti_hi p1
  have lp2 := ti_lo p2; have up2 := ti_hi p2
  have lp3 := ti_lo p3; have up3 := ti_hi p3
  obtain ⟨F, hF0⟩ : ∃ F, F = f_X12_canLay (dv G Γ H0) ((a0 : Int)) (p1.toInt) (p2.toInt) (p3.toInt) := ⟨_, rfl⟩
  have hF := hF0.trans (f_X12_canLay.eq_1 (dv G Γ H0) ((a0 : Int)) (p1.toInt) (p2.toInt) (p3.toInt))
  refine lv_aload_n hx hb gX12_canLay_0.1 rfl (lv_at hl 0 rfl) ?_
  have hR0 := hR
  refine lv_iload_n hx hb gX12_canLay_0.2.1 rfl (lv_at hl 1 rfl) ?_
  refine th_call (th_runV (As := [.int p1]) (rest := []) hC mf_X12_isLaid km_X12_137 im_X12_isLaid se_X12_isLaid (c_X12_isLaid l G Γ H0 hB.1 hU a0 h0 p1 (by omega) (by omega)) rfl rfl ⟨Nat.le_of_ble_eq_true rfl, Nat.le_of_ble_eq_true rfl⟩ hB.1 h0 ro_46 rfl rfl hl.1 rfl (Nat.le_of_ble_eq_true rfl) gX12_canLay_0.2.2.1 ⟨Nat.le_refl _, Nat.le_refl _⟩) hB.2.1 (fun v2 H2 locs hp hz hS => ?_)
  obtain ⟨x1, rfl, lx1, ux1, q2_0, q2_1, q2_2, rfl⟩ := hp
  have hB := th_B_s hB hS
  replace hF := hF.trans (dv_bn2 (q2_2))
  refine W.eq (g2 := F0 m 5 ls [.int x1]) rfl ?_
  refine tr_if_ne (tgt := 16) hx hb gX12_canLay_0.2.2.2.1 (by decide) (Eq.refl _) (fun c5 => ?_) (fun c5 => ?_)
  · replace hF := hF.trans (if_pos c5)
    refine lv_iconst (v := 0) hx hb gX12_canLay_1.1 (by decide) ?_
    exact th_iret hC hH hr hlocks narrow_b0 hB.2.1 ⟨_, rfl, by decide, by decide, fun h9 => absurd h9 (by decide), hB.1, hB.2.2, hR, (hF0.symm.trans (hF.trans (by rw [tk_0])))⟩ gX12_canLay_1.2.1
  · replace hF := hF.trans (if_neg (not_not_intro c5))
    refine lv_aload_n hx hb gX12_canLay_0.2.2.2.2.1 rfl (lv_at hl 0 rfl) ?_
    refine lv_iload_n hx hb gX12_canLay_0.2.2.2.2.2.1 rfl (lv_at hl 1 rfl) ?_
    refine th_call (th_runV (As := [.int p1]) (rest := []) hC mf_X12_isWhole km_X12_357 im_X12_isWhole se_X12_isWhole (c_X12_isWhole l G Γ H0 hB.1 hU a0 h0 p1 (by omega) (by omega)) rfl rfl ⟨Nat.le_of_ble_eq_true rfl, Nat.le_of_ble_eq_true rfl⟩ hB.1 h0 ro_46 rfl rfl hl.1 rfl (Nat.le_of_ble_eq_true rfl) gX12_canLay_0.2.2.2.2.2.2.1 ⟨Nat.le_refl _, Nat.le_refl _⟩) hB.2.1 (fun v10 H10 locs hp hz hS => ?_)
    obtain ⟨x2, rfl, lx2, ux2, q10_0, rfl⟩ := hp
    have hB := th_B_s hB hS
    replace hF := hF.trans (dv_bn2 (q10_0))
    refine W.eq (g2 := F0 m 13 ls [.int x2]) rfl ?_
    refine tr_if_ne (tgt := 18) hx hb gX12_canLay_0.2.2.2.2.2.2.2 (by decide) (Eq.refl _) (fun c13 => ?_) (fun c13 => ?_)
    · replace hF := hF.trans (if_pos c13)
      refine lv_aload_n hx hb gX12_canLay_1.2.2.1 rfl (lv_at hl 0 rfl) ?_
      have q1_1x := q2_1 (by omega)
      refine th_call (th_runV (As := []) (rest := []) hC mf_X12_laysCovered km_X12_351 im_X12_laysCovered se_X12_laysCovered (c_X12_laysCovered l G Γ H0 hB.1 hU a0 h0 hR) rfl rfl ⟨Nat.le_of_ble_eq_true rfl, Nat.le_of_ble_eq_true rfl⟩ hB.1 h0 ro_46 rfl rfl hl.1 rfl (Nat.le_of_ble_eq_true rfl) gX12_canLay_1.2.2.2.1 ⟨Nat.le_refl _, Nat.le_refl _⟩) hB.2.1 (fun v19 H19 locs hp hz hS => ?_)
      obtain ⟨rfl, hI1, hf, hR, z19_0, z19_1⟩ := hp
      have hB := th_B_c hB hI1 hS hf (by decide)
      have vv_H19_2 : mo_v G H19 a0 2 = mo_v G H0 a0 2 := mo_v_F (r := 48) hB.1 hf h0 rfl ro_48 (by decide) (by decide)
      replace hF := hF.trans (dv_bn2 (z19_1))
      refine W.eq (g2 := F0 m 22 ls []) rfl ?_
      refine lv_aload_n hx hb gX12_canLay_1.2.2.2.2.1 rfl (lv_at hl 0 rfl) ?_
      refine lv_aload_n hx hb gX12_canLay_1.2.2.2.2.2.1 rfl (lv_at hl 0 rfl) ?_
      refine th_getO (j := 2) (r2 := 48) hC cf_X12 hB.1 h0 ro_46 rfl rfl kf_X12_28 gX12_canLay_1.2.2.2.2.2.2.1 (fun b3 mb3 hb3 => ?_)
      have sb3 := (th_F_o hB.2.2 h0 ro_46 (j := 2) (by decide) (by decide)).symm.trans mb3
      refine lv_bipush (v := 29) hx hb gX12_canLay_1.2.2.2.2.2.2.2 (by decide) ?_
      refine lv_iload_n hx hb gX12_canLay_2.1 rfl (lv_at hl 1 rfl) ?_
      refine tr_iadd hx hb gX12_canLay_2.2.1 tk_29 (Eq.refl _) (by omega) (by omega) (fun x4 ex4 => ?_)
      replace hF := hF.trans (dv_bn (ex4.symm))
      refine th_ialdF hC hB.1 hb3 ro_48 rfl (Eq.refl _) (by omega) (by omega) (ek_side (by omega) (by omega)) gX12_canLay_2.2.2.1 (fun x5 mx5 lx5 ux5 => ?_)
      replace hF := hF.trans (dv_bn (dv_aldI hB.1 hU hb3 ow_48 (z := x4.toInt) mx5 (by omega)))
      have vgx5 : mo_v G H0 a0 2 (29 + p1.toInt) = x5.toInt := by rw [← (mo_v_F (r := 48) hB.1 hB.2.2 h0 rfl ro_48 (by decide) (by decide) : mo_v G H19 a0 2 = _)]; rw [show ((29 + p1.toInt) : Int) = x4.toInt by omega]; exact mo_vat mb3 mx5 (by omega)
      refine lv_iload_n hx hb gX12_canLay_2.2.2.2.1 rfl (lv_at hl 2 rfl) ?_
      refine lv_iload_n hx hb gX12_canLay_2.2.2.2.2.1 rfl (lv_at hl 3 rfl) ?_
      refine lv_aload_n hx hb gX12_canLay_2.2.2.2.2.2.1 rfl (lv_at hl 0 rfl) ?_
      refine th_getK hC cf_X12 hB.1 h0 ro_46 rfl (j := 2) (by decide) mb3 kf_X12_28 gX12_canLay_2.2.2.2.2.2.2.1 ?_
      refine lv_bipush (v := 67) hx hb gX12_canLay_2.2.2.2.2.2.2.2 (by decide) ?_
      refine th_ialdF hC hB.1 hb3 ro_48 rfl tk_67 (by omega) (by omega) (ek_hall (by omega) (by omega)) gX12_canLay_3.1 (fun x6 mx6 lx6 ux6 => ?_)
      replace hF := hF.trans (dv_bn (dv_aldI hB.1 hU hb3 ow_48 (z := 67) mx6 (by omega)))
      have vgx6 : mo_v G H0 a0 2 67 = x6.toInt := by rw [← (mo_v_F (r := 48) hB.1 hB.2.2 h0 rfl ro_48 (by decide) (by decide) : mo_v G H19 a0 2 = _)]; rw [show (67 : Int) = 67 by omega]; exact mo_vat mb3 mx6 (by omega)
      refine lv_aload_n hx hb gX12_canLay_3.2.1 rfl (lv_at hl 0 rfl) ?_
      refine th_getK hC cf_X12 hB.1 h0 ro_46 rfl (j := 2) (by decide) mb3 kf_X12_28 gX12_canLay_3.2.2.1 ?_
      refine lv_bipush (v := 68) hx hb gX12_canLay_3.2.2.2.1 (by decide) ?_
      refine th_ialdF hC hB.1 hb3 ro_48 rfl tk_68 (by omega) (by omega) (ek_hall (by omega) (by omega)) gX12_canLay_3.2.2.2.2.1 (fun x7 mx7 lx7 ux7 => ?_)
      replace hF := hF.trans (dv_bn (dv_aldI hB.1 hU hb3 ow_48 (z := 68) mx7 (by omega)))
      have vgx7 : mo_v G H0 a0 2 68 = x7.toInt := by rw [← (mo_v_F (r := 48) hB.1 hB.2.2 h0 rfl ro_48 (by decide) (by decide) : mo_v G H19 a0 2 = _)]; rw [show (68 : Int) = 68 by omega]; exact mo_vat mb3 mx7 (by omega)
      refine th_call (th_runV (As := [.int x5, .int p2, .int p3, .int x6, .int x7]) (rest := []) hC mf_X12_isFree km_X12_360 im_X12_isFree se_X12_isFree (c_X12_isFree l G Γ H19 hB.1 hU a0 h0 x5 (by omega) (by omega) p2 (by omega) (by omega) p3 (by omega) (by omega) x6 (by omega) (by omega) x7 (by omega) (by omega)) rfl rfl ⟨Nat.le_of_ble_eq_true rfl, Nat.le_of_ble_eq_true rfl⟩ hB.1 h0 ro_46 rfl rfl hl.1 rfl (Nat.le_of_ble_eq_true rfl) gX12_canLay_3.2.2.2.2.2.1 ⟨Nat.le_refl _, Nat.le_refl _⟩) hB.2.1 (fun v48 H48 locs hp hz hS => ?_)
      obtain ⟨x8, rfl, lx8, ux8, q48_0, q48_1, q48_2, rfl⟩ := hp
      have hB := th_B_s hB hS
      replace hF := hF.trans (dv_bn2 (q48_2))
      refine W.eq (g2 := F0 m 51 ls [.int x8]) rfl ?_
      refine tr_if_eq (tgt := 68) hx hb gX12_canLay_3.2.2.2.2.2.2.1 (by decide) (Eq.refl _) (fun c51 => ?_) (fun c51 => ?_)
      · replace hF := hF.trans (if_pos c51)
        refine lv_iconst (v := 0) hx hb gX12_canLay_4.2.2.2.2.2.2.2 (by decide) ?_
        exact th_iret hC hH hr hlocks narrow_b0 hB.2.1 ⟨_, rfl, by decide, by decide, fun h9 => absurd h9 (by decide), hB.1, hB.2.2, hR, (hF0.symm.trans (hF.trans (by rw [tk_0])))⟩ gX12_canLay_5
      · replace hF := hF.trans (if_neg c51)
        refine lv_aload_n hx hb gX12_canLay_3.2.2.2.2.2.2.2 rfl (lv_at hl 0 rfl) ?_
        have q48x : ∀ z : Int, p3.toInt ≤ z → z < p3.toInt + x5.toInt → mo_x G H19 a0 29 z &&& mo_mk x5 p2 = 0 := q48_1 (by omega)
        have q48f := q48_0 (by omega)
        refine lv_iload_n hx hb gX12_canLay_4.1 rfl (lv_at hl 1 rfl) ?_
        refine lv_iload_n hx hb gX12_canLay_4.2.1 rfl (lv_at hl 2 rfl) ?_
        refine lv_iload_n hx hb gX12_canLay_4.2.2.1 rfl (lv_at hl 3 rfl) ?_
        refine th_call (th_runV (As := [.int p1, .int p2, .int p3]) (rest := []) hC mf_X12_isBarred km_X12_156 im_X12_isBarred se_X12_isBarred (c_X12_isBarred l G Γ H19 hB.1 hU a0 h0 (th_KE hR) p1 (by omega) (by omega) p2 p3) rfl rfl ⟨Nat.le_of_ble_eq_true rfl, Nat.le_of_ble_eq_true rfl⟩ hB.1 h0 ro_46 rfl rfl hl.1 rfl (Nat.le_of_ble_eq_true rfl) gX12_canLay_4.2.2.2.1 ⟨Nat.le_refl _, Nat.le_refl _⟩) hB.2.1 (fun v58 H58 locs hp hz hS => ?_)
        have hRD := hR
        obtain ⟨x9, rfl, lx9, ux9, hI1, hf, hR, z58_0⟩ := hp
        have hR := th_RK_c hR.1 hRD hI1 h0 hf (by decide)
        have hB := th_B_c hB hI1 hS hf (by decide)
        have mm10 := (th_F_o hf h0 ro_46 (j := 2) (by decide) (by decide)).trans mb3
        have vv_H58_2 : mo_v G H58 a0 2 = mo_v G H19 a0 2 := mo_v_F (r := 48) hB.1 hf h0 rfl ro_48 (by decide) (by decide)
        replace hF := hF.trans (dv_bn2 (z58_0))
        refine W.eq (g2 := F0 m 61 ls [.int x9]) rfl ?_
        refine tr_if_ne (tgt := 68) hx hb gX12_canLay_4.2.2.2.2.1 (by decide) (Eq.refl _) (fun c61 => ?_) (fun c61 => ?_)
        · replace hF := hF.trans (if_pos c61)
          refine lv_iconst (v := 0) hx hb gX12_canLay_4.2.2.2.2.2.2.2 (by decide) ?_
          exact th_iret hC hH hr hlocks narrow_b0 hB.2.1 ⟨_, rfl, by decide, by decide, fun h9 => absurd h9 (by decide), hB.1, hB.2.2, hR, (hF0.symm.trans (hF.trans (by rw [tk_0])))⟩ gX12_canLay_5
        · replace hF := hF.trans (if_neg (not_not_intro c61))
          refine lv_iconst (v := 1) hx hb gX12_canLay_4.2.2.2.2.2.1 (by decide) ?_
          refine lv_goto (tgt := 69) hx hb gX12_canLay_4.2.2.2.2.2.2.1 (by decide) ?_
          exact th_iret hC hH hr hlocks narrow_b1 hB.2.1 ⟨_, rfl, by decide, by decide, fun _ => ⟨q1_1x, mo_fr_of hR0.2.2.1 (mo_wide hI h0).2 (mo_high hI h0).2 (mo_many hI h0).1 z19_0 (by omega) (hR0.2.2.2.2.2 p1.toInt (by omega) (by omega)) (by omega) (by omega) (by omega) (by omega) (by omega) q48x⟩, hB.1, hB.2.2, hR, (hF0.symm.trans (hF.trans (by rw [tk_1])))⟩ gX12_canLay_5
    · replace hF := hF.trans (if_neg (not_not_intro c13))
      refine lv_iconst (v := 0) hx hb gX12_canLay_1.1 (by decide) ?_
      exact th_iret hC hH hr hlocks narrow_b0 hB.2.1 ⟨_, rfl, by decide, by decide, fun h9 => absurd h9 (by decide), hB.1, hB.2.2, hR, (hF0.symm.trans (hF.trans (by rw [tk_0])))⟩ gX12_canLay_1.2.1

set_option maxHeartbeats 4000000 in
set_option maxRecDepth 100000 in
theorem c_X12_rolls (l : Launch) (G : th_G) (Γ : th_Ga) (H0 : Heap) (hI : th_I G Γ H0) (hU : dv_U Γ) (a0 : Nat) (h0 : Γ a0 = (46, 0)) (hR : th_RE a0 G Γ H0) (p1 : Int32) (f1 : 0 ≤ p1.toInt) (g1 : p1.toInt ≤ 8) : Met l yX12_rolls (.code yX12_rolls cX12_rolls 2 (none) :: th_tb) ({ frames := 0, cells := 0, slots := 0, locals := 0 } : Room) (th_P [.ref a0, .int p1] G H0) (th_Q (fun (v : Option Value) (H1 : Heap) => v = none ∧ th_I G Γ H1 ∧ th_F G Γ [(48, 0)] H0 H1 ∧ th_RE a0 G Γ H1 ∧ (mo_v G H1 a0 2 = mo_u (mo_u (mo_v G H0 a0 2) (9 + p1.toInt) (-1)) (18 + p1.toInt) (-1)) ∧ (f_X12_rolls (dv G Γ H0) (a0 : Int) p1.toInt = (dv G Γ H1, 0))) G) 0 0 (fun q => G.1.2.2 ≤ q) := by
  refine th_met RX12 (by decide) rfl (Nat.le_of_ble_eq_true rfl) ?_
  intro p e s m below meth c hC hH hr hlocks hnm ls hl
  have hx := hC.1
  have hb := hC.2.1
  have hB : th_B G Γ Γ [(48, 0)] H0 H0 [] := ⟨hI, va_S.rf, th_F_rf⟩
  have hl : lv_has ls 2 [(0, .ref a0), (1, .int p1)] := hl
  have lp1 := ti_lo p1; have up1 := ti_hi p1
  obtain ⟨F, hF0⟩ : ∃ F, F = f_X12_rolls (dv G Γ H0) ((a0 : Int)) (p1.toInt) := ⟨_, rfl⟩
  have hF := hF0.trans (f_X12_rolls.eq_1 (dv G Γ H0) ((a0 : Int)) (p1.toInt))
  refine lv_aload_n hx hb gX12_rolls_0.1 rfl (lv_at hl 0 rfl) ?_
  refine th_getO (j := 2) (r2 := 48) hC cf_X12 hB.1 h0 ro_46 rfl rfl kf_X12_28 gX12_rolls_0.2.1 (fun b1 mb1 hb1 => ?_)
  refine lv_bipush (v := 9) hx hb gX12_rolls_0.2.2.1 (by decide) ?_
  refine lv_iload_n hx hb gX12_rolls_0.2.2.2.1 rfl (lv_at hl 1 rfl) ?_
  refine tr_iadd hx hb gX12_rolls_0.2.2.2.2.1 tk_9 (Eq.refl _) (by omega) (by omega) (fun x2 ex2 => ?_)
  replace hF := hF.trans (dv_bn (ex2.symm))
  refine lv_iconst (v := (-1)) hx hb gX12_rolls_0.2.2.2.2.2.1 (by decide) ?_
  have hIo := hB.1
  refine th_iastF hC hB hb1 (Or.inl hb1) ro_48 rfl (by decide) (Eq.refl _) (by omega) (by omega) (by rw [(ek_a (by omega) (by omega))]; exact th_sIa) gX12_rolls_0.2.2.2.2.2.2.1 (fun H9 locs hB hf9 hst9 => ?_)
  have hf := hf9
  have mm3 := (th_F_o hf h0 ro_46 (j := 2) (by decide) (by decide)).trans mb1
  have hRC := th_RC_F hB.1 hR.1 hf (th_T_s hb1 ro_48 hst9) (by decide)
  replace hF := hF.trans (dv_bn (dv_stoI hIo hB.1 hU hb1 ow_48 (i := x2.toInt) hst9 tk_m1 (by omega)))
  have vs9 : mo_v G H9 a0 2 = mo_u (mo_v G H0 a0 2) (9 + p1.toInt) (-1) := by rw [show ((9 + p1.toInt) : Int) = x2.toInt by omega]; exact mo_v_st h0 hb1 (by decide) mb1 hst9 (by omega)
  have hR := th_RE_st hB.1 hR h0 hb1 mb1 hf9 hst9 (by omega) (by omega)
  refine lv_aload_n hx hb gX12_rolls_0.2.2.2.2.2.2.2 rfl (lv_at hl 0 rfl) ?_
  refine th_getK hC cf_X12 hB.1 h0 ro_46 rfl (j := 2) (by decide) mm3 kf_X12_28 gX12_rolls_1.1 ?_
  refine lv_bipush (v := 18) hx hb gX12_rolls_1.2.1 (by decide) ?_
  refine lv_iload_n hx hb gX12_rolls_1.2.2.1 rfl (lv_at hl 1 rfl) ?_
  refine tr_iadd hx hb gX12_rolls_1.2.2.2.1 tk_18 (Eq.refl _) (by omega) (by omega) (fun x4 ex4 => ?_)
  replace hF := hF.trans (dv_bn (ex4.symm))
  refine lv_iconst (v := (-1)) hx hb gX12_rolls_1.2.2.2.2.1 (by decide) ?_
  have hIo := hB.1
  refine th_iastF hC hB hb1 (Or.inl hb1) ro_48 rfl (by decide) (Eq.refl _) (by omega) (by omega) (by rw [(ek_a (by omega) (by omega))]; exact th_sIa) gX12_rolls_1.2.2.2.2.2.1 (fun H19 locs hB hf19 hst19 => ?_)
  have hf := hf19
  have mm5 := (th_F_o hf h0 ro_46 (j := 2) (by decide) (by decide)).trans mm3
  have hRC := th_RC_F hB.1 hR.1 hf (th_T_s hb1 ro_48 hst19) (by decide)
  replace hF := hF.trans (dv_bn (dv_stoI hIo hB.1 hU hb1 ow_48 (i := x4.toInt) hst19 tk_m1 (by omega)))
  have vs19 : mo_v G H19 a0 2 = mo_u (mo_v G H9 a0 2) (18 + p1.toInt) (-1) := by rw [show ((18 + p1.toInt) : Int) = x4.toInt by omega]; exact mo_v_st h0 hb1 (by decide) mm3 hst19 (by omega)
  have hR := th_RE_st hB.1 hR h0 hb1 mm3 hf19 hst19 (by omega) (by omega)
  exact th_vret hC hH hr hlocks hB.2.1 ⟨rfl, hB.1, hB.2.2, hR, by rw [vs19, vs9], (hF0.symm.trans hF)⟩ gX12_rolls_1.2.2.2.2.2.2

set_option maxHeartbeats 4000000 in
set_option maxRecDepth 100000 in
theorem c_X12_laysAt (l : Launch) (G : th_G) (Γ : th_Ga) (H0 : Heap) (hI : th_I G Γ H0) (hU : dv_U Γ) (a0 : Nat) (h0 : Γ a0 = (46, 0)) (hR : th_RE a0 G Γ H0) (p1 : Int32) (f1 : 0 ≤ p1.toInt) (g1 : p1.toInt ≤ 8) (p2 : Int32) (p3 : Int32) : Met l yX12_laysAt (.code yX12_laysAt cX12_laysAt 5 (some FieldType.int) :: th_tb) ({ frames := 52, cells := 0, slots := 0, locals := 1650 } : Room) (th_P [.ref a0, .int p1, .int p2, .int p3] G H0) (th_Q (fun (v : Option Value) (H1 : Heap) => ∃ r : Int32, v = some (.int r) ∧ 0 ≤ r.toInt ∧ r.toInt ≤ 99 ∧ th_I G Γ H1 ∧ th_F G Γ [(48, 0), (46, 22), (46, 24), (58, 0), (46, 23), (46, 25)] H0 H1 ∧ th_RE a0 G Γ H1 ∧ (∀ i : Int, i ≠ 27 → mo_v G H1 a0 2 i = mo_u (mo_u (mo_v G H0 a0 2) (9 + p1.toInt) p2.toInt) (18 + p1.toInt) p3.toInt i) ∧ (f_X12_laysAt (dv G Γ H0) (a0 : Int) p1.toInt p2.toInt p3.toInt = (dv G Γ H1, r.toInt))) G) 0 0 (fun q => G.1.2.2 ≤ q) := by
  refine th_met RX12 (by decide) rfl (Nat.le_of_ble_eq_true rfl) ?_
  intro p e s m below meth c hC hH hr hlocks hnm ls hl
  have hx := hC.1
  have hb := hC.2.1
  have hB : th_B G Γ Γ [(48, 0), (46, 22), (46, 24), (58, 0), (46, 23), (46, 25)] H0 H0 [] := ⟨hI, va_S.rf, th_F_rf⟩
  have hl : lv_has ls 5 [(0, .ref a0), (1, .int p1), (2, .int p2), (3, .int p3)] := hl
  have lp1 := ti_lo p1; have up1 := ti_hi p1
  have lp2 := ti_lo p2; have up2 := ti_hi p2
  have lp3 := ti_lo p3; have up3 := ti_hi p3
  obtain ⟨F, hF0⟩ : ∃ F, F = f_X12_laysAt (dv G Γ H0) ((a0 : Int)) (p1.toInt) (p2.toInt) (p3.toInt) := ⟨_, rfl⟩
  have hF := hF0.trans (f_X12_laysAt.eq_1 (dv G Γ H0) ((a0 : Int)) (p1.toInt) (p2.toInt) (p3.toInt))
  refine lv_aload_n hx hb gX12_laysAt_0.1 rfl (lv_at hl 0 rfl) ?_
  refine lv_iload_n hx hb gX12_laysAt_0.2.1 rfl (lv_at hl 1 rfl) ?_
  refine lv_iload_n hx hb gX12_laysAt_0.2.2.1 rfl (lv_at hl 2 rfl) ?_
  refine lv_iload_n hx hb gX12_laysAt_0.2.2.2.1 rfl (lv_at hl 3 rfl) ?_
  refine th_call (th_runV (As := [.int p1, .int p2, .int p3]) (rest := []) hC mf_X12_costsAt km_X12_152 im_X12_costsAt se_X12_costsAt (c_X12_costsAt l G Γ H0 hB.1 hU a0 h0 hR p1 (by omega) (by omega) p2 p3) rfl rfl ⟨Nat.le_of_ble_eq_true rfl, Nat.le_of_ble_eq_true rfl⟩ hB.1 h0 ro_46 rfl rfl hl.1 rfl (Nat.le_of_ble_eq_true rfl) gX12_laysAt_0.2.2.2.2.1 ⟨Nat.le_refl _, Nat.le_refl _⟩) hB.2.1 (fun v4 H4 locs hp hz hS => ?_)
  obtain ⟨x1, rfl, lx1, ux1, hI1, hf, hR, z4_0⟩ := hp
  have hB := th_B_c hB hI1 hS hf (by decide)
  have vv_H4_2 : mo_v G H4 a0 2 = mo_v G H0 a0 2 := mo_v_F (r := 48) hB.1 hf h0 rfl ro_48 (by decide) (by decide)
  replace hF := hF.trans (dv_bn2 (z4_0))
  refine W.eq (g2 := F0 m 7 ls [.int x1]) rfl ?_
  refine lv_istore (lv' := [(4, .int x1), (0, .ref a0), (1, .int p1), (2, .int p2), (3, .int p3)]) hx hb gX12_laysAt_0.2.2.2.2.2.1 hl (by decide) rfl (fun ls hl => ?_)
  refine lv_aload_n hx hb gX12_laysAt_0.2.2.2.2.2.2.1 rfl (lv_at hl 1 rfl) ?_
  refine th_getO (j := 2) (r2 := 48) hC cf_X12 hB.1 h0 ro_46 rfl rfl kf_X12_28 gX12_laysAt_0.2.2.2.2.2.2.2 (fun b2 mb2 hb2 => ?_)
  have sb2 := (th_F_o hB.2.2 h0 ro_46 (j := 2) (by decide) (by decide)).symm.trans mb2
  refine lv_bipush (v := 9) hx hb gX12_laysAt_1.1 (by decide) ?_
  refine lv_iload_n hx hb gX12_laysAt_1.2.1 rfl (lv_at hl 2 rfl) ?_
  refine tr_iadd hx hb gX12_laysAt_1.2.2.1 tk_9 (Eq.refl _) (by omega) (by omega) (fun x3 ex3 => ?_)
  replace hF := hF.trans (dv_bn (ex3.symm))
  refine lv_iload_n hx hb gX12_laysAt_1.2.2.2.1 rfl (lv_at hl 3 rfl) ?_
  have hIo := hB.1
  refine th_iastF hC hB hb2 (Or.inl hb2) ro_48 rfl (by decide) (Eq.refl _) (by omega) (by omega) (by rw [(ek_a (by omega) (by omega))]; exact th_sIa) gX12_laysAt_1.2.2.2.2.1 (fun H18 locs hB hf18 hst18 => ?_)
  have hf := hf18
  have mm4 := (th_F_o hf h0 ro_46 (j := 2) (by decide) (by decide)).trans mb2
  have hRC := th_RC_F hB.1 hR.1 hf (th_T_s hb2 ro_48 hst18) (by decide)
  replace hF := hF.trans (dv_bn (dv_stoI hIo hB.1 hU hb2 ow_48 (i := x3.toInt) hst18 (Eq.refl _) (by omega)))
  have vs18 : mo_v G H18 a0 2 = mo_u (mo_v G H4 a0 2) (9 + p1.toInt) p2.toInt := by rw [show ((9 + p1.toInt) : Int) = x3.toInt by omega]; exact mo_v_st h0 hb2 (by decide) mb2 hst18 (by omega)
  have hR := th_RE_st hB.1 hR h0 hb2 mb2 hf18 hst18 (by omega) (by omega)
  refine lv_aload_n hx hb gX12_laysAt_1.2.2.2.2.2.1 rfl (lv_at hl 1 rfl) ?_
  refine th_getK hC cf_X12 hB.1 h0 ro_46 rfl (j := 2) (by decide) mm4 kf_X12_28 gX12_laysAt_1.2.2.2.2.2.2.1 ?_
  refine lv_bipush (v := 18) hx hb gX12_laysAt_1.2.2.2.2.2.2.2 (by decide) ?_
  refine lv_iload_n hx hb gX12_laysAt_2.1 rfl (lv_at hl 2 rfl) ?_
  refine tr_iadd hx hb gX12_laysAt_2.2.1 tk_18 (Eq.refl _) (by omega) (by omega) (fun x5 ex5 => ?_)
  replace hF := hF.trans (dv_bn (ex5.symm))
  refine lv_iload_n hx hb gX12_laysAt_2.2.2.1 rfl (lv_at hl 4 rfl) ?_
  have hIo := hB.1
  refine th_iastF hC hB hb2 (Or.inl hb2) ro_48 rfl (by decide) (Eq.refl _) (by omega) (by omega) (by rw [(ek_a (by omega) (by omega))]; exact th_sIa) gX12_laysAt_2.2.2.2.1 (fun H28 locs hB hf28 hst28 => ?_)
  have hf := hf28
  have mm6 := (th_F_o hf h0 ro_46 (j := 2) (by decide) (by decide)).trans mm4
  have hRC := th_RC_F hB.1 hR.1 hf (th_T_s hb2 ro_48 hst28) (by decide)
  replace hF := hF.trans (dv_bn (dv_stoI hIo hB.1 hU hb2 ow_48 (i := x5.toInt) hst28 (Eq.refl _) (by omega)))
  have vs28 : mo_v G H28 a0 2 = mo_u (mo_v G H18 a0 2) (18 + p1.toInt) p3.toInt := by rw [show ((18 + p1.toInt) : Int) = x5.toInt by omega]; exact mo_v_st h0 hb2 (by decide) mm4 hst28 (by omega)
  have hR := th_RE_st hB.1 hR h0 hb2 mm4 hf28 hst28 (by omega) (by omega)
  refine lv_aload_n hx hb gX12_laysAt_2.2.2.2.2.1 rfl (lv_at hl 1 rfl) ?_
  refine th_getK hC cf_X12 hB.1 h0 ro_46 rfl (j := 2) (by decide) mm6 kf_X12_28 gX12_laysAt_2.2.2.2.2.2.1 ?_
  refine lv_bipush (v := 27) hx hb gX12_laysAt_2.2.2.2.2.2.2.1 (by decide) ?_
  refine lv_sipush (v := 9999) hx hb gX12_laysAt_2.2.2.2.2.2.2.2 (by decide) ?_
  refine lv_aload_n hx hb gX12_laysAt_3.1 rfl (lv_at hl 1 rfl) ?_
  refine th_getK hC cf_X12 hB.1 h0 ro_46 rfl (j := 2) (by decide) mm6 kf_X12_28 gX12_laysAt_3.2.1 ?_
  refine lv_bipush (v := 27) hx hb gX12_laysAt_3.2.2.1 (by decide) ?_
  refine th_ialdF hC hB.1 hb2 ro_48 rfl tk_27 (by omega) (by omega) (ek_a (by omega) (by omega)) gX12_laysAt_3.2.2.2.1 (fun x7 mx7 lx7 ux7 => ?_)
  replace hF := hF.trans (dv_bn (dv_aldI hB.1 hU hb2 ow_48 (z := 27) mx7 (by omega)))
  have vgx7 : mo_v G H28 a0 2 27 = x7.toInt := by rw [show (27 : Int) = 27 by omega]; exact mo_vat mm6 mx7 (by omega)
  refine lv_iload hx hb gX12_laysAt_3.2.2.2.2.1 (lv_at hl 0 rfl) ?_
  refine lv_iadd hx hb gX12_laysAt_3.2.2.2.2.2.1 ?_
  refine lv_topi (fun x8 ex8 => ?_)
  have lx8 := ti_lo x8; have ux8 := ti_hi x8
  replace hF := hF.trans (dv_bn (dv_add_e (Eq.refl _) (Eq.refl _) ex8))
  refine th_call (th_runS (As := [.int 9999, .int x8]) (rest := [.int 27, .ref b2]) hC mf_X12_lesser km_X12_364 st_X12_lesser (c_X12_lesser l G Γ H28 hB.1 hU 9999 x8) rfl rfl ⟨Nat.le_of_ble_eq_true rfl, Nat.le_of_ble_eq_true rfl⟩ rfl hl.1 rfl (Nat.le_of_ble_eq_true rfl) gX12_laysAt_3.2.2.2.2.2.2.1 ⟨Nat.le_refl _, Nat.le_refl _⟩) hB.2.1 (fun v48 H48 locs hp hz hS => ?_)
  obtain ⟨x9, rfl, q48_0, q48_1, rfl⟩ := hp
  have hB := th_B_s hB hS
  have w48_0 := tk_9999
  have zf48 := q48_1
  rw [tk_9999] at zf48
  replace hF := hF.trans (dv_bn2 (zf48))
  refine W.eq (g2 := F0 m 51 ls [.int x9, .int 27, .ref b2]) rfl ?_
  have hIo := hB.1
  refine th_iastF hC hB hb2 (Or.inl hb2) ro_48 rfl (by decide) tk_27 (by omega) (by omega) (by rw [(ek_a (by omega) (by omega))]; exact th_sIa) gX12_laysAt_3.2.2.2.2.2.2.2 (fun H51 locs hB hf51 hst51 => ?_)
  have hf := hf51
  have mm10 := (th_F_o hf h0 ro_46 (j := 2) (by decide) (by decide)).trans mm6
  have hRC := th_RC_F hB.1 hR.1 hf (th_T_s hb2 ro_48 hst51) (by decide)
  replace hF := hF.trans (dv_bn (dv_stoI hIo hB.1 hU hb2 ow_48 (i := 27) hst51 (Eq.refl _) (by omega)))
  have vs51 : mo_v G H51 a0 2 = mo_u (mo_v G H28 a0 2) 27 x9.toInt := by rw [show (27 : Int) = 27 by omega]; exact mo_v_st h0 hb2 (by decide) mm6 hst51 (by omega)
  have hR := th_RE_st hB.1 hR h0 hb2 mm6 hf51 hst51 (by omega) (by omega)
  refine lv_iload hx hb gX12_laysAt_4.1 (lv_at hl 0 rfl) ?_
  exact th_iret hC hH hr hlocks rfl hB.2.1 ⟨_, rfl, by omega, by omega, hB.1, hB.2.2, hR, fun i hi => by rw [vs51, mo_un hi, vs28, vs18, vv_H4_2], (hF0.symm.trans hF)⟩ gX12_laysAt_4.2

set_option maxHeartbeats 4000000 in
set_option maxRecDepth 100000 in
theorem c_X12_yearPasses (l : Launch) (G : th_G) (Γ : th_Ga) (H0 : Heap) (hI : th_I G Γ H0) (hU : dv_U Γ) (a0 : Nat) (h0 : Γ a0 = (46, 0)) (hR : th_RE a0 G Γ H0) : Met l yX12_yearPasses (.code yX12_yearPasses cX12_yearPasses 3 (some FieldType.int) :: th_tb) ({ frames := 52, cells := 0, slots := 0, locals := 1648 } : Room) (th_P [.ref a0] G H0) (th_Q (fun (v : Option Value) (H1 : Heap) => ∃ r : Int32, v = some (.int r) ∧ 0 ≤ r.toInt ∧ r.toInt ≤ 9 ∧ th_I G Γ H1 ∧ th_F G Γ [(48, 0), (60, 0), (46, 22), (46, 24), (58, 0), (46, 23), (46, 25)] H0 H1 ∧ th_RE a0 G Γ H1 ∧ (mo_sb (mo_v G H0 a0 2) (mo_v G H1 a0 2)) ∧ (f_X12_yearPasses (dv G Γ H0) (a0 : Int) = (dv G Γ H1, r.toInt))) G) 0 0 (fun q => G.1.2.2 ≤ q) := by
  refine th_met RX12 (by decide) rfl (Nat.le_of_ble_eq_true rfl) ?_
  intro p e s m below meth c hC hH hr hlocks hnm ls hl
  have hx := hC.1
  have hb := hC.2.1
  have hB : th_B G Γ Γ [(48, 0), (60, 0), (46, 22), (46, 24), (58, 0), (46, 23), (46, 25)] H0 H0 [] := ⟨hI, va_S.rf, th_F_rf⟩
  have hl : lv_has ls 3 [(0, .ref a0)] := hl
  obtain ⟨F, hF0⟩ : ∃ F, F = f_X12_yearPasses (dv G Γ H0) ((a0 : Int)) := ⟨_, rfl⟩
  have hF := hF0.trans (f_X12_yearPasses.eq_1 (dv G Γ H0) ((a0 : Int)))
  refine lv_iconst (v := 0) hx hb gX12_yearPasses_0.1 (by decide) ?_
  refine lv_istore_n (lv' := [(1, .int 0), (0, .ref a0)]) hx hb gX12_yearPasses_0.2.1 rfl hl (by decide) rfl (fun ls hl => ?_)
  refine lv_iconst (v := 0) hx hb gX12_yearPasses_0.2.2.1 (by decide) ?_
  refine lv_istore_n (lv' := [(2, .int 0), (1, .int 0), (0, .ref a0)]) hx hb gX12_yearPasses_0.2.2.2.1 rfl hl (by decide) rfl (fun ls hl => ?_)
  have lp4 : ∀ (n4 : Nat) (H4 : Heap) (locs : List Loc) (ls : Array Slot) (j4_2 : Int32), th_B G Γ Γ [(48, 0), (60, 0), (46, 22), (46, 24), (58, 0), (46, 23), (46, 25)] H0 H4 locs → th_RE a0 G Γ H4 → lv_has ls 3 [(1, .int 0), (0, .ref a0), (2, .int j4_2)] → F = dv_lp f_X12_yearPasses_4b (dv G Γ H4, (a0 : Int), j4_2.toInt) → 0 ≤ j4_2.toInt → j4_2.toInt ≤ 9 → mo_v G H4 a0 2 = mo_v G H0 a0 2 → (2147483648 : Int) - j4_2.toInt ≤ (n4 : Int) → W p l e ({ frames := 52, cells := 0, slots := 0, locals := 1648 } : Room) s m ([.ref a0] : List Value).toArray below meth c H4 locs 0 0 (MQ below (th_Q (fun (v : Option Value) (H1 : Heap) => ∃ r : Int32, v = some (.int r) ∧ 0 ≤ r.toInt ∧ r.toInt ≤ 9 ∧ th_I G Γ H1 ∧ th_F G Γ [(48, 0), (60, 0), (46, 22), (46, 24), (58, 0), (46, 23), (46, 25)] H0 H1 ∧ th_RE a0 G Γ H1 ∧ (mo_sb (mo_v G H0 a0 2) (mo_v G H1 a0 2)) ∧ (f_X12_yearPasses (dv G Γ H0) (a0 : Int) = (dv G Γ H1, r.toInt))) G) ([.ref a0] : List Value).toArray s 0 0 (fun q => G.1.2.2 ≤ q)) (F0 m 4 ls []) := by
    intro n4
    induction n4 with
    | zero => intro H4 locs ls j4_2 hB hR hl hF g4_0 g4_1 g4_2 hm4; exact absurd hm4 (by have := ti_hi j4_2; omega)
    | succ n4 ih4 =>
      intro H4 locs ls j4_2 hB hR hl hF g4_0 g4_1 g4_2 hm4
      have lj4_2 := ti_lo j4_2; have uj4_2 := ti_hi j4_2
      have hm4 : (2147483648 : Int) - j4_2.toInt ≤ (n4 : Int) + 1 := by omega
      replace hF := hF.trans (dv_lp_eq)
      replace hF := hF.trans (congrArg (dv_k f_X12_yearPasses_4b) (f_X12_yearPasses_4c.eq_1 (dv G Γ H4) ((a0 : Int)) (j4_2.toInt)))
      refine lv_iload_n hx hb gX12_yearPasses_0.2.2.2.2.1 rfl (lv_at hl 2 rfl) ?_
      refine lv_aload_n hx hb gX12_yearPasses_0.2.2.2.2.2.1 rfl (lv_at hl 1 rfl) ?_
      refine th_call (th_runV (As := []) (rest := [.int j4_2]) hC mf_X12_many km_X12_115 im_X12_many se_X12_many (c_X12_many l G Γ H4 hB.1 hU a0 h0) rfl rfl ⟨Nat.le_of_ble_eq_true rfl, Nat.le_of_ble_eq_true rfl⟩ hB.1 h0 ro_46 rfl rfl hl.1 rfl (Nat.le_of_ble_eq_true rfl) gX12_yearPasses_0.2.2.2.2.2.2.1 ⟨Nat.le_refl _, Nat.le_refl _⟩) hB.2.1 (fun v6 H6 locs hp hz hS => ?_)
      obtain ⟨x1, rfl, lx1, ux1, q6_0, q6_1, rfl⟩ := hp
      have hB := th_B_s hB hS
      replace hF := hF.trans (congrArg (dv_k f_X12_yearPasses_4b) (dv_bn2 (q6_1)))
      refine W.eq (g2 := F0 m 9 ls [.int x1, .int j4_2]) rfl ?_
      refine tr_icmp_ge (tgt := 41) hx hb gX12_yearPasses_0.2.2.2.2.2.2.2 (by decide) (Eq.refl _) (Eq.refl _) (fun c9 => ?_) (fun c9 => ?_)
      · replace hF := hF.trans (congrArg (dv_k f_X12_yearPasses_4b) (if_pos c9))
        refine lv_iconst (v := 0) hx hb gX12_yearPasses_2.2.2.2.2.2.2.2 (by decide) ?_
        refine lv_istore_n (lv' := [(2, .int 0), (1, .int 0), (0, .ref a0)]) hx hb gX12_yearPasses_3.1 rfl hl (by decide) rfl (fun ls hl => ?_)
        have lp43 : ∀ (n43 : Nat) (H43 : Heap) (locs : List Loc) (ls : Array Slot) (j43_1 : Int32) (j43_2 : Int32), th_B G Γ Γ [(48, 0), (60, 0), (46, 22), (46, 24), (58, 0), (46, 23), (46, 25)] H0 H43 locs → th_RE a0 G Γ H43 → lv_has ls 3 [(0, .ref a0), (1, .int j43_1), (2, .int j43_2)] → F = dv_k f_X12_yearPasses_4b (dv_lp f_X12_yearPasses_43b (dv G Γ H43, (a0 : Int), j43_1.toInt, j43_2.toInt)) → 0 ≤ j43_1.toInt → j43_1.toInt ≤ 9 → 0 ≤ j43_2.toInt → j43_2.toInt ≤ 9 → mo_sb (mo_v G H0 a0 2) (mo_v G H43 a0 2) → j43_1.toInt ≤ j43_2.toInt → (2147483648 : Int) - j43_2.toInt ≤ (n43 : Int) → W p l e ({ frames := 52, cells := 0, slots := 0, locals := 1648 } : Room) s m ([.ref a0] : List Value).toArray below meth c H43 locs 0 0 (MQ below (th_Q (fun (v : Option Value) (H1 : Heap) => ∃ r : Int32, v = some (.int r) ∧ 0 ≤ r.toInt ∧ r.toInt ≤ 9 ∧ th_I G Γ H1 ∧ th_F G Γ [(48, 0), (60, 0), (46, 22), (46, 24), (58, 0), (46, 23), (46, 25)] H0 H1 ∧ th_RE a0 G Γ H1 ∧ (mo_sb (mo_v G H0 a0 2) (mo_v G H1 a0 2)) ∧ (f_X12_yearPasses (dv G Γ H0) (a0 : Int) = (dv G Γ H1, r.toInt))) G) ([.ref a0] : List Value).toArray s 0 0 (fun q => G.1.2.2 ≤ q)) (F0 m 43 ls []) := by
          intro n43
          induction n43 with
          | zero => intro H43 locs ls j43_1 j43_2 hB hR hl hF g43_0 g43_1 g43_2 g43_3 g43_4 g43_5 hm43; exact absurd hm43 (by have := ti_hi j43_2; omega)
          | succ n43 ih43 =>
            intro H43 locs ls j43_1 j43_2 hB hR hl hF g43_0 g43_1 g43_2 g43_3 g43_4 g43_5 hm43
            have lj43_1 := ti_lo j43_1; have uj43_1 := ti_hi j43_1
            have lj43_2 := ti_lo j43_2; have uj43_2 := ti_hi j43_2
            have hm43 : (2147483648 : Int) - j43_2.toInt ≤ (n43 : Int) + 1 := by omega
            replace hF := hF.trans (congrArg (dv_k f_X12_yearPasses_4b) (dv_lp_eq))
            replace hF := hF.trans (congrArg (dv_k f_X12_yearPasses_4b) (congrArg (dv_k f_X12_yearPasses_43b) (f_X12_yearPasses_43c.eq_1 (dv G Γ H43) ((a0 : Int)) (j43_1.toInt) (j43_2.toInt))))
            refine lv_iload_n hx hb gX12_yearPasses_3.2.1 rfl (lv_at hl 2 rfl) ?_
            refine lv_aload_n hx hb gX12_yearPasses_3.2.2.1 rfl (lv_at hl 0 rfl) ?_
            refine th_call (th_runV (As := []) (rest := [.int j43_2]) hC mf_X12_many km_X12_115 im_X12_many se_X12_many (c_X12_many l G Γ H43 hB.1 hU a0 h0) rfl rfl ⟨Nat.le_of_ble_eq_true rfl, Nat.le_of_ble_eq_true rfl⟩ hB.1 h0 ro_46 rfl rfl hl.1 rfl (Nat.le_of_ble_eq_true rfl) gX12_yearPasses_3.2.2.2.1 ⟨Nat.le_refl _, Nat.le_refl _⟩) hB.2.1 (fun v45 H45 locs hp hz hS => ?_)
            obtain ⟨x2, rfl, lx2, ux2, q45_0, q45_1, rfl⟩ := hp
            have hB := th_B_s hB hS
            replace hF := hF.trans (congrArg (dv_k f_X12_yearPasses_4b) (congrArg (dv_k f_X12_yearPasses_43b) (dv_bn2 (q45_1))))
            refine W.eq (g2 := F0 m 48 ls [.int x2, .int j43_2]) rfl ?_
            refine tr_icmp_ge (tgt := 114) hx hb gX12_yearPasses_3.2.2.2.2.1 (by decide) (Eq.refl _) (Eq.refl _) (fun c48 => ?_) (fun c48 => ?_)
            · replace hF := hF.trans (congrArg (dv_k f_X12_yearPasses_4b) (congrArg (dv_k f_X12_yearPasses_43b) (if_pos c48)))
              refine lv_aload_n hx hb gX12_yearPasses_8.1 rfl (lv_at hl 0 rfl) ?_
              refine th_getO (j := 2) (r2 := 48) hC cf_X12 hB.1 h0 ro_46 rfl rfl kf_X12_28 gX12_yearPasses_8.2.1 (fun b3 mb3 hb3 => ?_)
              refine lv_bipush (v := 28) hx hb gX12_yearPasses_8.2.2.1 (by decide) ?_
              refine lv_dup2_11 hx hb gX12_yearPasses_8.2.2.2.1 rfl rfl ?_
              refine th_ialdF hC hB.1 hb3 ro_48 rfl tk_28 (by omega) (by omega) (ek_a (by omega) (by omega)) gX12_yearPasses_8.2.2.2.2.1 (fun x4 mx4 lx4 ux4 => ?_)
              replace hF := hF.trans (congrArg (dv_k f_X12_yearPasses_4b) (congrArg (dv_k f_X12_yearPasses_43b) (dv_bn (dv_aldI hB.1 hU hb3 ow_48 (z := 28) mx4 (by omega)))))
              have vgx4 : mo_v G H43 a0 2 28 = x4.toInt := by rw [show (28 : Int) = 28 by omega]; exact mo_vat mb3 mx4 (by omega)
              refine lv_iconst (v := 1) hx hb gX12_yearPasses_8.2.2.2.2.2.1 (by decide) ?_
              refine lv_iadd hx hb gX12_yearPasses_8.2.2.2.2.2.2.1 ?_
              refine lv_topi (fun x5 ex5 => ?_)
              have lx5 := ti_lo x5; have ux5 := ti_hi x5
              replace hF := hF.trans (congrArg (dv_k f_X12_yearPasses_4b) (congrArg (dv_k f_X12_yearPasses_43b) (dv_bn (dv_add_e (Eq.refl _) tk_1 ex5))))
              have hIo := hB.1
              refine th_iastF hC hB hb3 (Or.inl hb3) ro_48 rfl (by decide) tk_28 (by omega) (by omega) (by rw [(ek_a (by omega) (by omega))]; exact th_sIa) gX12_yearPasses_8.2.2.2.2.2.2.2 (fun H124 locs hB hf124 hst124 => ?_)
              have hf := hf124
              have hRC := th_RC_F hB.1 hR.1 hf (th_T_s hb3 ro_48 hst124) (by decide)
              replace hF := hF.trans (congrArg (dv_k f_X12_yearPasses_4b) (congrArg (dv_k f_X12_yearPasses_43b) (dv_bn (dv_stoI hIo hB.1 hU hb3 ow_48 (i := 28) hst124 (Eq.refl _) (by omega)))))
              have vs124 : mo_v G H124 a0 2 = mo_u (mo_v G H43 a0 2) 28 x5.toInt := by rw [show (28 : Int) = 28 by omega]; exact mo_v_st h0 hb3 (by decide) mb3 hst124 (by omega)
              have hR := th_RE_st hB.1 hR h0 hb3 mb3 hf124 hst124 (by omega) (by omega)
              refine lv_iload_n hx hb gX12_yearPasses_9.1 rfl (lv_at hl 1 rfl) ?_
              replace hF := hF.trans (congrArg (dv_k f_X12_yearPasses_4b) (dv_kr))
              replace hF := hF.trans (dv_kr)
              exact th_iret hC hH hr hlocks rfl hB.2.1 ⟨_, rfl, by omega, by omega, hB.1, hB.2.2, hR, (by rw [vs124]; exact mo_sb_st g43_4 (Or.inr (Or.inr rfl))), (hF0.symm.trans hF)⟩ gX12_yearPasses_9.2
            · replace hF := hF.trans (congrArg (dv_k f_X12_yearPasses_4b) (congrArg (dv_k f_X12_yearPasses_43b) (if_neg (Int.not_le.mpr c48))))
              refine lv_aload_n hx hb gX12_yearPasses_3.2.2.2.2.2.1 rfl (lv_at hl 0 rfl) ?_
              refine lv_iload_n hx hb gX12_yearPasses_3.2.2.2.2.2.2.1 rfl (lv_at hl 2 rfl) ?_
              refine th_call (th_runV (As := [.int j43_2]) (rest := []) hC mf_X12_isLaid km_X12_137 im_X12_isLaid se_X12_isLaid (c_X12_isLaid l G Γ H43 hB.1 hU a0 h0 j43_2 (by omega) (by omega)) rfl rfl ⟨Nat.le_of_ble_eq_true rfl, Nat.le_of_ble_eq_true rfl⟩ hB.1 h0 ro_46 rfl rfl hl.1 rfl (Nat.le_of_ble_eq_true rfl) gX12_yearPasses_3.2.2.2.2.2.2.2 ⟨Nat.le_refl _, Nat.le_refl _⟩) hB.2.1 (fun v53 H53 locs hp hz hS => ?_)
              obtain ⟨x6, rfl, lx6, ux6, q53_0, q53_1, q53_2, rfl⟩ := hp
              have hB := th_B_s hB hS
              replace hF := hF.trans (congrArg (dv_k f_X12_yearPasses_4b) (congrArg (dv_k f_X12_yearPasses_43b) (dv_bn2 (q53_2))))
              refine W.eq (g2 := F0 m 56 ls [.int x6]) rfl ?_
              refine tr_if_ne (tgt := 62) hx hb gX12_yearPasses_4.1 (by decide) (Eq.refl _) (fun c56 => ?_) (fun c56 => ?_)
              · replace hF := hF.trans (congrArg (dv_k f_X12_yearPasses_4b) (congrArg (dv_k f_X12_yearPasses_43b) (if_pos c56)))
                refine lv_aload_n hx hb gX12_yearPasses_4.2.2.1 rfl (lv_at hl 0 rfl) ?_
                refine th_getO (j := 2) (r2 := 48) hC cf_X12 hB.1 h0 ro_46 rfl rfl kf_X12_28 gX12_yearPasses_4.2.2.2.1 (fun b7 mb7 hb7 => ?_)
                have sb7 := (th_F_o hB.2.2 h0 ro_46 (j := 2) (by decide) (by decide)).symm.trans mb7
                refine lv_iconst (v := 0) hx hb gX12_yearPasses_4.2.2.2.2.1 (by decide) ?_
                refine lv_iload_n hx hb gX12_yearPasses_4.2.2.2.2.2.1 rfl (lv_at hl 2 rfl) ?_
                refine tr_iadd hx hb gX12_yearPasses_4.2.2.2.2.2.2.1 tk_0 (Eq.refl _) (by omega) (by omega) (fun x8 ex8 => ?_)
                replace hF := hF.trans (congrArg (dv_k f_X12_yearPasses_4b) (congrArg (dv_k f_X12_yearPasses_43b) (dv_bn (ex8.symm))))
                refine lv_iconst (v := 0) hx hb gX12_yearPasses_4.2.2.2.2.2.2.2 (by decide) ?_
                refine lv_aload_n hx hb gX12_yearPasses_5.1 rfl (lv_at hl 0 rfl) ?_
                refine th_getK hC cf_X12 hB.1 h0 ro_46 rfl (j := 2) (by decide) mb7 kf_X12_28 gX12_yearPasses_5.2.1 ?_
                refine lv_iconst (v := 0) hx hb gX12_yearPasses_5.2.2.1 (by decide) ?_
                refine lv_iload_n hx hb gX12_yearPasses_5.2.2.2.1 rfl (lv_at hl 2 rfl) ?_
                refine tr_iadd hx hb gX12_yearPasses_5.2.2.2.2.1 tk_0 (Eq.refl _) (by omega) (by omega) (fun x9 ex9 => ?_)
                replace hF := hF.trans (congrArg (dv_k f_X12_yearPasses_4b) (congrArg (dv_k f_X12_yearPasses_43b) (dv_bn (ex9.symm))))
                refine th_ialdF hC hB.1 hb7 ro_48 rfl (Eq.refl _) (by omega) (by omega) (ek_a (by omega) (by omega)) gX12_yearPasses_5.2.2.2.2.2.1 (fun x10 mx10 lx10 ux10 => ?_)
                replace hF := hF.trans (congrArg (dv_k f_X12_yearPasses_4b) (congrArg (dv_k f_X12_yearPasses_43b) (dv_bn (dv_aldI hB.1 hU hb7 ow_48 (z := x9.toInt) mx10 (by omega)))))
                have vgx10 : mo_v G H43 a0 2 (0 + j43_2.toInt) = x10.toInt := by rw [show ((0 + j43_2.toInt) : Int) = x9.toInt by omega]; exact mo_vat mb7 mx10 (by omega)
                refine lv_aload_n hx hb gX12_yearPasses_5.2.2.2.2.2.2.1 rfl (lv_at hl 0 rfl) ?_
                refine th_getO (j := 30) (r2 := 60) hC cf_X12 hB.1 h0 ro_46 rfl rfl kf_X12_69 gX12_yearPasses_5.2.2.2.2.2.2.2 (fun b11 mb11 hb11 => ?_)
                have sb11 := (th_F_o hB.2.2 h0 ro_46 (j := 30) (by decide) (by decide)).symm.trans mb11
                refine lv_iload_n hx hb gX12_yearPasses_6.1 rfl (lv_at hl 2 rfl) ?_
                refine th_ialdF hC hB.1 hb11 ro_60 rfl (Eq.refl _) (by omega) (by omega) rfl gX12_yearPasses_6.2.1 (fun x12 mx12 lx12 ux12 => ?_)
                replace hF := hF.trans (congrArg (dv_k f_X12_yearPasses_4b) (congrArg (dv_k f_X12_yearPasses_43b) (dv_bn (dv_aldI hB.1 hU hb11 ow_60 (z := j43_2.toInt) mx12 (by omega)))))
                refine lv_isub hx hb gX12_yearPasses_6.2.2.1 ?_
                refine lv_topi (fun x13 ex13 => ?_)
                have lx13 := ti_lo x13; have ux13 := ti_hi x13
                replace hF := hF.trans (congrArg (dv_k f_X12_yearPasses_4b) (congrArg (dv_k f_X12_yearPasses_43b) (dv_bn (dv_sub_e (Eq.refl _) (Eq.refl _) ex13))))
                refine th_call (th_runS (As := [.int 0, .int x13]) (rest := [.int x8, .ref b7]) hC mf_X12_greater km_X12_367 st_X12_greater (c_X12_greater l G Γ H43 hB.1 hU 0 x13) rfl rfl ⟨Nat.le_of_ble_eq_true rfl, Nat.le_of_ble_eq_true rfl⟩ rfl hl.1 rfl (Nat.le_of_ble_eq_true rfl) gX12_yearPasses_6.2.2.2.1 ⟨Nat.le_refl _, Nat.le_refl _⟩) hB.2.1 (fun v85 H85 locs hp hz hS => ?_)
                obtain ⟨x14, rfl, q85_0, q85_1, rfl⟩ := hp
                have hB := th_B_s hB hS
                have w85_0 := tk_0
                have zf85 := q85_1
                rw [tk_0] at zf85
                replace hF := hF.trans (congrArg (dv_k f_X12_yearPasses_4b) (congrArg (dv_k f_X12_yearPasses_43b) (dv_bn2 (zf85))))
                refine W.eq (g2 := F0 m 88 ls [.int x14, .int x8, .ref b7]) rfl ?_
                have hIo := hB.1
                refine th_iastF hC hB hb7 (Or.inl hb7) ro_48 rfl (by decide) (Eq.refl _) (by omega) (by omega) (by rw [(ek_a (by omega) (by omega))]; exact th_sIa) gX12_yearPasses_6.2.2.2.2.1 (fun H88 locs hB hf88 hst88 => ?_)
                have hf := hf88
                have mm15 := (th_F_o hf h0 ro_46 (j := 2) (by decide) (by decide)).trans mb7
                have mm16 := (th_F_o hf h0 ro_46 (j := 30) (by decide) (by decide)).trans mb11
                have hRC := th_RC_F hB.1 hR.1 hf (th_T_s hb7 ro_48 hst88) (by decide)
                replace hF := hF.trans (congrArg (dv_k f_X12_yearPasses_4b) (congrArg (dv_k f_X12_yearPasses_43b) (dv_bn (dv_stoI hIo hB.1 hU hb7 ow_48 (i := x8.toInt) hst88 (Eq.refl _) (by omega)))))
                have vs88 : mo_v G H88 a0 2 = mo_u (mo_v G H43 a0 2) (0 + j43_2.toInt) x14.toInt := by rw [show ((0 + j43_2.toInt) : Int) = x8.toInt by omega]; exact mo_v_st h0 hb7 (by decide) mb7 hst88 (by omega)
                have hR := th_RE_st hB.1 hR h0 hb7 mb7 hf88 hst88 (by omega) (by omega)
                refine lv_aload_n hx hb gX12_yearPasses_6.2.2.2.2.2.1 rfl (lv_at hl 0 rfl) ?_
                refine lv_iload_n hx hb gX12_yearPasses_6.2.2.2.2.2.2.1 rfl (lv_at hl 2 rfl) ?_
                refine th_call (th_runV (As := [.int j43_2]) (rest := []) hC mf_X12_isWhole km_X12_357 im_X12_isWhole se_X12_isWhole (c_X12_isWhole l G Γ H88 hB.1 hU a0 h0 j43_2 (by omega) (by omega)) rfl rfl ⟨Nat.le_of_ble_eq_true rfl, Nat.le_of_ble_eq_true rfl⟩ hB.1 h0 ro_46 rfl rfl hl.1 rfl (Nat.le_of_ble_eq_true rfl) gX12_yearPasses_6.2.2.2.2.2.2.2 ⟨Nat.le_refl _, Nat.le_refl _⟩) hB.2.1 (fun v91 H91 locs hp hz hS => ?_)
                obtain ⟨x17, rfl, lx17, ux17, q91_0, rfl⟩ := hp
                have hB := th_B_s hB hS
                replace hF := hF.trans (congrArg (dv_k f_X12_yearPasses_4b) (congrArg (dv_k f_X12_yearPasses_43b) (dv_bn2 (q91_0))))
                refine W.eq (g2 := F0 m 94 ls [.int x17]) rfl ?_
                refine tr_if_eq (tgt := 100) hx hb gX12_yearPasses_7.1 (by decide) (Eq.refl _) (fun c94 => ?_) (fun c94 => ?_)
                · replace hF := hF.trans (congrArg (dv_k f_X12_yearPasses_4b) (congrArg (dv_k f_X12_yearPasses_43b) (if_pos c94)))
                  refine lv_aload_n hx hb gX12_yearPasses_7.2.2.1 rfl (lv_at hl 0 rfl) ?_
                  refine lv_iload_n hx hb gX12_yearPasses_7.2.2.2.1 rfl (lv_at hl 2 rfl) ?_
                  refine th_call (th_runV (As := [.int j43_2]) (rest := []) hC mf_X12_rolls km_X12_123 im_X12_rolls se_X12_rolls (c_X12_rolls l G Γ H88 hB.1 hU a0 h0 hR j43_2 (by omega) (by omega)) rfl rfl ⟨Nat.le_of_ble_eq_true rfl, Nat.le_of_ble_eq_true rfl⟩ hB.1 h0 ro_46 rfl rfl hl.1 rfl (Nat.le_of_ble_eq_true rfl) gX12_yearPasses_7.2.2.2.2.1 ⟨Nat.le_refl _, Nat.le_refl _⟩) hB.2.1 (fun v102 H102 locs hp hz hS => ?_)
                  obtain ⟨rfl, hI1, hf, hR, z102_0, z102_1⟩ := hp
                  have hB := th_B_c hB hI1 hS hf (by decide)
                  have mm18 := (th_F_o hf h0 ro_46 (j := 2) (by decide) (by decide)).trans mm15
                  have mm19 := (th_F_o hf h0 ro_46 (j := 30) (by decide) (by decide)).trans mm16
                  replace hF := hF.trans (congrArg (dv_k f_X12_yearPasses_4b) (congrArg (dv_k f_X12_yearPasses_43b) (dv_bn2 (z102_1))))
                  refine W.eq (g2 := F0 m 105 ls []) rfl ?_
                  refine tr_iinc (fun x20 => [(1, .int x20), (0, .ref a0), (2, .int j43_2)]) hx hb gX12_yearPasses_7.2.2.2.2.2.1 hl (k := 1) rfl (Eq.refl _) tk_1 (by omega) (by omega) (by decide) (fun _ => rfl) (fun x20 ls ex20 hl => ?_)
                  replace hF := hF.trans (congrArg (dv_k f_X12_yearPasses_4b) (congrArg (dv_k f_X12_yearPasses_43b) (dv_bn (ex20.symm))))
                  refine tr_iinc (fun x21 => [(2, .int x21), (1, .int x20), (0, .ref a0)]) hx hb gX12_yearPasses_7.2.2.2.2.2.2.1 hl (k := 2) rfl (Eq.refl _) tk_1 (by omega) (by omega) (by decide) (fun _ => rfl) (fun x21 ls ex21 hl => ?_)
                  replace hF := hF.trans (congrArg (dv_k f_X12_yearPasses_4b) (congrArg (dv_k f_X12_yearPasses_43b) (dv_bn (ex21.symm))))
                  refine lv_goto (tgt := 43) hx hb gX12_yearPasses_7.2.2.2.2.2.2.2 (by decide) ?_
                  replace hF := hF.trans (congrArg (dv_k f_X12_yearPasses_4b) (dv_kl))
                  exact ih43 H102 locs ls x20 x21 hB hR (lv_sub hl [2, 1, 0] rfl) hF (by omega) (by omega) (by omega) (by omega) (by rw [z102_0, vs88]; exact mo_sb_ro (mo_sb_st g43_4 (Or.inl ⟨by omega, by omega⟩)) (by omega) (by omega)) (by omega) (by omega)
                · replace hF := hF.trans (congrArg (dv_k f_X12_yearPasses_4b) (congrArg (dv_k f_X12_yearPasses_43b) (if_neg c94)))
                  refine lv_goto (tgt := 108) hx hb gX12_yearPasses_7.2.1 (by decide) ?_
                  refine tr_iinc (fun x22 => [(2, .int x22), (0, .ref a0), (1, .int j43_1)]) hx hb gX12_yearPasses_7.2.2.2.2.2.2.1 hl (k := 2) rfl (Eq.refl _) tk_1 (by omega) (by omega) (by decide) (fun _ => rfl) (fun x22 ls ex22 hl => ?_)
                  replace hF := hF.trans (congrArg (dv_k f_X12_yearPasses_4b) (congrArg (dv_k f_X12_yearPasses_43b) (dv_bn (ex22.symm))))
                  refine lv_goto (tgt := 43) hx hb gX12_yearPasses_7.2.2.2.2.2.2.2 (by decide) ?_
                  replace hF := hF.trans (congrArg (dv_k f_X12_yearPasses_4b) (dv_kl))
                  exact ih43 H88 locs ls j43_1 x22 hB hR (lv_sub hl [1, 2, 0] rfl) hF (by omega) (by omega) (by omega) (by omega) (by rw [vs88]; exact mo_sb_st g43_4 (Or.inl ⟨by omega, by omega⟩)) (by omega) (by omega)
              · replace hF := hF.trans (congrArg (dv_k f_X12_yearPasses_4b) (congrArg (dv_k f_X12_yearPasses_43b) (if_neg (not_not_intro c56))))
                refine lv_goto (tgt := 108) hx hb gX12_yearPasses_4.2.1 (by decide) ?_
                refine tr_iinc (fun x23 => [(2, .int x23), (0, .ref a0), (1, .int j43_1)]) hx hb gX12_yearPasses_7.2.2.2.2.2.2.1 hl (k := 2) rfl (Eq.refl _) tk_1 (by omega) (by omega) (by decide) (fun _ => rfl) (fun x23 ls ex23 hl => ?_)
                replace hF := hF.trans (congrArg (dv_k f_X12_yearPasses_4b) (congrArg (dv_k f_X12_yearPasses_43b) (dv_bn (ex23.symm))))
                refine lv_goto (tgt := 43) hx hb gX12_yearPasses_7.2.2.2.2.2.2.2 (by decide) ?_
                replace hF := hF.trans (congrArg (dv_k f_X12_yearPasses_4b) (dv_kl))
                exact ih43 H43 locs ls j43_1 x23 hB hR (lv_sub hl [1, 2, 0] rfl) hF (by omega) (by omega) (by omega) (by omega) g43_4 (by omega) (by omega)
        exact lp43 ((2147483648 : Int) - (0)).toNat H4 locs ls 0 0 hB hR (lv_sub hl [2, 1, 0] rfl) (by rw [tk_0]; exact hF) (by decide) (by decide) (by decide) (by decide) (by rw [g4_2]; exact mo_sb_rf) (by have w0 := tk_0; omega) (by have w0 := tk_0; omega)
      · replace hF := hF.trans (congrArg (dv_k f_X12_yearPasses_4b) (if_neg (Int.not_le.mpr c9)))
        refine lv_aload_n hx hb gX12_yearPasses_1.1 rfl (lv_at hl 1 rfl) ?_
        refine th_getO (j := 30) (r2 := 60) hC cf_X12 hB.1 h0 ro_46 rfl rfl kf_X12_69 gX12_yearPasses_1.2.1 (fun b24 mb24 hb24 => ?_)
        have sb24 := (th_F_o hB.2.2 h0 ro_46 (j := 30) (by decide) (by decide)).symm.trans mb24
        refine lv_iload_n hx hb gX12_yearPasses_1.2.2.1 rfl (lv_at hl 2 rfl) ?_
        refine lv_aload_n hx hb gX12_yearPasses_1.2.2.2.1 rfl (lv_at hl 1 rfl) ?_
        refine lv_iload_n hx hb gX12_yearPasses_1.2.2.2.2.1 rfl (lv_at hl 2 rfl) ?_
        refine th_call (th_runV (As := [.int j4_2]) (rest := [.int j4_2, .ref b24]) hC mf_X12_isLaid km_X12_137 im_X12_isLaid se_X12_isLaid (c_X12_isLaid l G Γ H4 hB.1 hU a0 h0 j4_2 (by omega) (by omega)) rfl rfl ⟨Nat.le_of_ble_eq_true rfl, Nat.le_of_ble_eq_true rfl⟩ hB.1 h0 ro_46 rfl rfl hl.1 rfl (Nat.le_of_ble_eq_true rfl) gX12_yearPasses_1.2.2.2.2.2.1 ⟨Nat.le_refl _, Nat.le_refl _⟩) hB.2.1 (fun v19 H19 locs hp hz hS => ?_)
        obtain ⟨x25, rfl, lx25, ux25, q19_0, q19_1, q19_2, rfl⟩ := hp
        have hB := th_B_s hB hS
        replace hF := hF.trans (congrArg (dv_k f_X12_yearPasses_4b) (dv_bn2 (q19_2)))
        refine W.eq (g2 := F0 m 22 ls [.int x25, .int j4_2, .ref b24]) rfl ?_
        refine tr_if_eq (tgt := 33) hx hb gX12_yearPasses_1.2.2.2.2.2.2.1 (by decide) (Eq.refl _) (fun c22 => ?_) (fun c22 => ?_)
        · replace hF := hF.trans (congrArg (dv_k f_X12_yearPasses_4b) (if_pos c22))
          refine lv_iconst (v := 0) hx hb gX12_yearPasses_2.2.2.2.1 (by decide) ?_
          have hIo := hB.1
          refine th_iastF hC hB hb24 (Or.inl hb24) ro_60 rfl (by decide) (Eq.refl _) (by omega) (by omega) th_sIa gX12_yearPasses_2.2.2.2.2.1 (fun H34 locs hB hf34 hst34 => ?_)
          have hf := hf34
          have mm26 := (th_F_o hf h0 ro_46 (j := 30) (by decide) (by decide)).trans mb24
          have hR := th_RE_F hB.1 hR h0 hf (th_T_s hb24 ro_60 hst34) (by decide)
          have vv_H34_2 : mo_v G H34 a0 2 = mo_v G H4 a0 2 := mo_v_F (r := 48) hB.1 hf h0 rfl ro_48 (by decide) (by decide)
          replace hF := hF.trans (congrArg (dv_k f_X12_yearPasses_4b) (dv_bn (dv_stoI hIo hB.1 hU hb24 ow_60 (i := j4_2.toInt) hst34 tk_0 (by omega))))
          refine tr_iinc (fun x27 => [(2, .int x27), (1, .int 0), (0, .ref a0)]) hx hb gX12_yearPasses_2.2.2.2.2.2.1 hl (k := 2) rfl (Eq.refl _) tk_1 (by omega) (by omega) (by decide) (fun _ => rfl) (fun x27 ls ex27 hl => ?_)
          replace hF := hF.trans (congrArg (dv_k f_X12_yearPasses_4b) (dv_bn (ex27.symm)))
          refine lv_goto (tgt := 4) hx hb gX12_yearPasses_2.2.2.2.2.2.2.1 (by decide) ?_
          replace hF := hF.trans (dv_kl)
          exact ih4 H34 locs ls x27 hB hR (lv_sub hl [1, 2, 0] rfl) hF (by omega) (by omega) (by rw [vv_H34_2]; exact g4_2) (by omega)
        · replace hF := hF.trans (congrArg (dv_k f_X12_yearPasses_4b) (if_neg c22))
          refine lv_aload_n hx hb gX12_yearPasses_1.2.2.2.2.2.2.2 rfl (lv_at hl 1 rfl) ?_
          refine lv_iload_n hx hb gX12_yearPasses_2.1 rfl (lv_at hl 2 rfl) ?_
          refine th_call (th_runV (As := [.int j4_2]) (rest := [.int j4_2, .ref b24]) hC mf_X12_wearsNow km_X12_140 im_X12_wearsNow se_X12_wearsNow (c_X12_wearsNow l G Γ H4 hB.1 hU a0 h0 hR j4_2 (by omega) (by omega)) rfl rfl ⟨Nat.le_of_ble_eq_true rfl, Nat.le_of_ble_eq_true rfl⟩ hB.1 h0 ro_46 rfl rfl hl.1 rfl (Nat.le_of_ble_eq_true rfl) gX12_yearPasses_2.2.1 ⟨Nat.le_refl _, Nat.le_refl _⟩) hB.2.1 (fun v27 H27 locs hp hz hS => ?_)
          obtain ⟨x28, rfl, lx28, ux28, hI1, hf, hR, z27_0⟩ := hp
          have hB := th_B_c hB hI1 hS hf (by decide)
          have mm29 := (th_F_o hf h0 ro_46 (j := 30) (by decide) (by decide)).trans mb24
          have vv_H27_2 : mo_v G H27 a0 2 = mo_v G H4 a0 2 := mo_v_F (r := 48) hB.1 hf h0 rfl ro_48 (by decide) (by decide)
          replace hF := hF.trans (congrArg (dv_k f_X12_yearPasses_4b) (dv_bn2 (z27_0)))
          refine W.eq (g2 := F0 m 30 ls [.int x28, .int j4_2, .ref b24]) rfl ?_
          refine lv_goto (tgt := 34) hx hb gX12_yearPasses_2.2.2.1 (by decide) ?_
          have hIo := hB.1
          refine th_iastF hC hB hb24 (Or.inl hb24) ro_60 rfl (by decide) (Eq.refl _) (by omega) (by omega) th_sIa gX12_yearPasses_2.2.2.2.2.1 (fun H34 locs hB hf34 hst34 => ?_)
          have hf := hf34
          have mm30 := (th_F_o hf h0 ro_46 (j := 30) (by decide) (by decide)).trans mm29
          have hR := th_RE_F hB.1 hR h0 hf (th_T_s hb24 ro_60 hst34) (by decide)
          have vv_H34_2 : mo_v G H34 a0 2 = mo_v G H27 a0 2 := mo_v_F (r := 48) hB.1 hf h0 rfl ro_48 (by decide) (by decide)
          replace hF := hF.trans (congrArg (dv_k f_X12_yearPasses_4b) (dv_bn (dv_stoI hIo hB.1 hU hb24 ow_60 (i := j4_2.toInt) hst34 (Eq.refl _) (by omega))))
          refine tr_iinc (fun x31 => [(2, .int x31), (1, .int 0), (0, .ref a0)]) hx hb gX12_yearPasses_2.2.2.2.2.2.1 hl (k := 2) rfl (Eq.refl _) tk_1 (by omega) (by omega) (by decide) (fun _ => rfl) (fun x31 ls ex31 hl => ?_)
          replace hF := hF.trans (congrArg (dv_k f_X12_yearPasses_4b) (dv_bn (ex31.symm)))
          refine lv_goto (tgt := 4) hx hb gX12_yearPasses_2.2.2.2.2.2.2.1 (by decide) ?_
          replace hF := hF.trans (dv_kl)
          exact ih4 H34 locs ls x31 hB hR (lv_sub hl [1, 2, 0] rfl) hF (by omega) (by omega) (by rw [vv_H34_2, vv_H27_2]; exact g4_2) (by omega)
  exact lp4 ((2147483648 : Int) - (0)).toNat H0 [] ls 0 hB hR (lv_sub hl [1, 2, 0] rfl) (by rw [tk_0]; exact hF) (by decide) (by decide) rfl (by have w0 := tk_0; omega)
end
section
set_option maxHeartbeats 4000000 in
set_option maxRecDepth 100000 in
theorem c_X12_adds (l : Launch) (G : th_G) (Γ : th_Ga) (H0 : Heap) (hI : th_I G Γ H0) (hU : dv_U Γ) (a0 : Nat) (h0 : Γ a0 = (46, 0)) (hR : th_RE a0 G Γ H0) (p1 : Int32) (f1 : 1 ≤ p1.toInt) (g1 : p1.toInt ≤ 12) (p2 : Int32) (p3 : Int32) (k1 : mo_v G H0 a0 2 69 < 9) : Met l yX12_adds (.code yX12_adds cX12_adds 5 (none) :: th_tb) ({ frames := 1, cells := 0, slots := 0, locals := 21 } : Room) (th_P [.ref a0, .int p1, .int p2, .int p3] G H0) (th_Q (fun (v : Option Value) (H1 : Heap) => v = none ∧ th_I G Γ H1 ∧ th_F G Γ [(48, 0)] H0 H1 ∧ th_RE a0 G Γ H1 ∧ (mo_v G H1 a0 2 = mo_ad (mo_v G H0 a0 2) (mo_v G H0 a0 2 69) p1.toInt p2.toInt p3.toInt) ∧ (f_X12_adds (dv G Γ H0) (a0 : Int) p1.toInt p2.toInt p3.toInt = (dv G Γ H1, 0))) G) 0 0 (fun q => G.1.2.2 ≤ q) := by
  refine th_met RX12 (by decide) rfl (Nat.le_of_ble_eq_true rfl) ?_
  intro p e s m below meth c hC hH hr hlocks hnm ls hl
  have hx := hC.1
  have hb := hC.2.1
  have hB : th_B G Γ Γ [(48, 0)] H0 H0 [] := ⟨hI, va_S.rf, th_F_rf⟩
  have hl : lv_has ls 5 [(0, .ref a0), (1, .int p1), (2, .int p2), (3, .int p3)] := hl
  have lp1 := ti_lo p1; have up1 := ti_hi p1
  have lp2 := ti_lo p2; have up2 := ti_hi p2
  have lp3 := ti_lo p3; have up3 := ti_hi p3
  obtain ⟨F, hF0⟩ : ∃ F, F = f_X12_adds (dv G Γ H0) ((a0 : Int)) (p1.toInt) (p2.toInt) (p3.toInt) := ⟨_, rfl⟩
  have hF := hF0.trans (f_X12_adds.eq_1 (dv G Γ H0) ((a0 : Int)) (p1.toInt) (p2.toInt) (p3.toInt))
  refine lv_aload_n hx hb gX12_adds_0.1 rfl (lv_at hl 0 rfl) ?_
  refine th_call (th_runV (As := []) (rest := []) hC mf_X12_many km_X12_115 im_X12_many se_X12_many (c_X12_many l G Γ H0 hB.1 hU a0 h0) rfl rfl ⟨Nat.le_of_ble_eq_true rfl, Nat.le_of_ble_eq_true rfl⟩ hB.1 h0 ro_46 rfl rfl hl.1 rfl (Nat.le_of_ble_eq_true rfl) gX12_adds_0.2.1 ⟨Nat.le_refl _, Nat.le_refl _⟩) hB.2.1 (fun v1 H1 locs hp hz hS => ?_)
  obtain ⟨x1, rfl, lx1, ux1, q1_0, q1_1, rfl⟩ := hp
  have hB := th_B_s hB hS
  replace hF := hF.trans (dv_bn2 (q1_1))
  refine W.eq (g2 := F0 m 4 ls [.int x1]) rfl ?_
  refine lv_istore (lv' := [(4, .int x1), (0, .ref a0), (1, .int p1), (2, .int p2), (3, .int p3)]) hx hb gX12_adds_0.2.2.1 hl (by decide) rfl (fun ls hl => ?_)
  refine lv_aload_n hx hb gX12_adds_0.2.2.2.1 rfl (lv_at hl 1 rfl) ?_
  refine th_getO (j := 2) (r2 := 48) hC cf_X12 hB.1 h0 ro_46 rfl rfl kf_X12_28 gX12_adds_0.2.2.2.2.1 (fun b2 mb2 hb2 => ?_)
  refine lv_bipush (v := 29) hx hb gX12_adds_0.2.2.2.2.2.1 (by decide) ?_
  refine lv_iload hx hb gX12_adds_0.2.2.2.2.2.2.1 (lv_at hl 0 rfl) ?_
  refine tr_iadd hx hb gX12_adds_0.2.2.2.2.2.2.2 tk_29 (Eq.refl _) (by omega) (by omega) (fun x3 ex3 => ?_)
  replace hF := hF.trans (dv_bn (ex3.symm))
  refine lv_iload_n hx hb gX12_adds_1.1 rfl (lv_at hl 2 rfl) ?_
  have hIo := hB.1
  refine th_iastF hC hB hb2 (Or.inl hb2) ro_48 rfl (by decide) (Eq.refl _) (by omega) (by omega) (by rw [(ek_side (by omega) (by omega))]; exact (th_sI (by omega) (by omega))) gX12_adds_1.2.1 (fun H16 locs hB hf16 hst16 => ?_)
  have hf := hf16
  have mm4 := (th_F_o hf h0 ro_46 (j := 2) (by decide) (by decide)).trans mb2
  have hRC := th_RC_F hB.1 hR.1 hf (th_T_s hb2 ro_48 hst16) (by decide)
  replace hF := hF.trans (dv_bn (dv_stoI hIo hB.1 hU hb2 ow_48 (i := x3.toInt) hst16 (Eq.refl _) (by omega)))
  have vs16 : mo_v G H16 a0 2 = mo_u (mo_v G H0 a0 2) (29 + x1.toInt) p1.toInt := by rw [show ((29 + x1.toInt) : Int) = x3.toInt by omega]; exact mo_v_st h0 hb2 (by decide) mb2 hst16 (by omega)
  have hR := th_RE_st hB.1 hR h0 hb2 mb2 hf16 hst16 (by omega) (by omega)
  refine lv_aload_n hx hb gX12_adds_1.2.2.1 rfl (lv_at hl 1 rfl) ?_
  refine th_getK hC cf_X12 hB.1 h0 ro_46 rfl (j := 2) (by decide) mm4 kf_X12_28 gX12_adds_1.2.2.2.1 ?_
  refine lv_bipush (v := 38) hx hb gX12_adds_1.2.2.2.2.1 (by decide) ?_
  refine lv_iload hx hb gX12_adds_1.2.2.2.2.2.1 (lv_at hl 0 rfl) ?_
  refine tr_iadd hx hb gX12_adds_1.2.2.2.2.2.2.1 tk_38 (Eq.refl _) (by omega) (by omega) (fun x5 ex5 => ?_)
  replace hF := hF.trans (dv_bn (ex5.symm))
  refine lv_iload_n hx hb gX12_adds_1.2.2.2.2.2.2.2 rfl (lv_at hl 3 rfl) ?_
  have hIo := hB.1
  refine th_iastF hC hB hb2 (Or.inl hb2) ro_48 rfl (by decide) (Eq.refl _) (by omega) (by omega) (by rw [(ek_b (by omega) (by omega))]; exact th_sIa) gX12_adds_2.1 (fun H27 locs hB hf27 hst27 => ?_)
  have hf := hf27
  have mm6 := (th_F_o hf h0 ro_46 (j := 2) (by decide) (by decide)).trans mm4
  have hRC := th_RC_F hB.1 hR.1 hf (th_T_s hb2 ro_48 hst27) (by decide)
  replace hF := hF.trans (dv_bn (dv_stoI hIo hB.1 hU hb2 ow_48 (i := x5.toInt) hst27 (Eq.refl _) (by omega)))
  have vs27 : mo_v G H27 a0 2 = mo_u (mo_v G H16 a0 2) (38 + x1.toInt) p2.toInt := by rw [show ((38 + x1.toInt) : Int) = x5.toInt by omega]; exact mo_v_st h0 hb2 (by decide) mm4 hst27 (by omega)
  have hR := th_RE_st hB.1 hR h0 hb2 mm4 hf27 hst27 (by omega) (by omega)
  refine lv_aload_n hx hb gX12_adds_2.2.1 rfl (lv_at hl 1 rfl) ?_
  refine th_getK hC cf_X12 hB.1 h0 ro_46 rfl (j := 2) (by decide) mm6 kf_X12_28 gX12_adds_2.2.2.1 ?_
  refine lv_iconst (v := 0) hx hb gX12_adds_2.2.2.2.1 (by decide) ?_
  refine lv_iload hx hb gX12_adds_2.2.2.2.2.1 (lv_at hl 0 rfl) ?_
  refine tr_iadd hx hb gX12_adds_2.2.2.2.2.2.1 tk_0 (Eq.refl _) (by omega) (by omega) (fun x7 ex7 => ?_)
  replace hF := hF.trans (dv_bn (ex7.symm))
  refine lv_iload_n hx hb gX12_adds_2.2.2.2.2.2.2.1 rfl (lv_at hl 4 rfl) ?_
  have hIo := hB.1
  refine th_iastF hC hB hb2 (Or.inl hb2) ro_48 rfl (by decide) (Eq.refl _) (by omega) (by omega) (by rw [(ek_a (by omega) (by omega))]; exact th_sIa) gX12_adds_2.2.2.2.2.2.2.2 (fun H37 locs hB hf37 hst37 => ?_)
  have hf := hf37
  have mm8 := (th_F_o hf h0 ro_46 (j := 2) (by decide) (by decide)).trans mm6
  have hRC := th_RC_F hB.1 hR.1 hf (th_T_s hb2 ro_48 hst37) (by decide)
  replace hF := hF.trans (dv_bn (dv_stoI hIo hB.1 hU hb2 ow_48 (i := x7.toInt) hst37 (Eq.refl _) (by omega)))
  have vs37 : mo_v G H37 a0 2 = mo_u (mo_v G H27 a0 2) (0 + x1.toInt) p3.toInt := by rw [show ((0 + x1.toInt) : Int) = x7.toInt by omega]; exact mo_v_st h0 hb2 (by decide) mm6 hst37 (by omega)
  have hR := th_RE_st hB.1 hR h0 hb2 mm6 hf37 hst37 (by omega) (by omega)
  refine lv_aload_n hx hb gX12_adds_3.1 rfl (lv_at hl 1 rfl) ?_
  refine lv_iload hx hb gX12_adds_3.2.1 (lv_at hl 0 rfl) ?_
  refine th_call (th_runV (As := [.int x1]) (rest := []) hC mf_X12_rolls km_X12_123 im_X12_rolls se_X12_rolls (c_X12_rolls l G Γ H37 hB.1 hU a0 h0 hR x1 (by omega) (by omega)) rfl rfl ⟨Nat.le_of_ble_eq_true rfl, Nat.le_of_ble_eq_true rfl⟩ hB.1 h0 ro_46 rfl rfl hl.1 rfl (Nat.le_of_ble_eq_true rfl) gX12_adds_3.2.2.1 ⟨Nat.le_refl _, Nat.le_refl _⟩) hB.2.1 (fun v41 H41 locs hp hz hS => ?_)
  obtain ⟨rfl, hI1, hf, hR, z41_0, z41_1⟩ := hp
  have hB := th_B_c hB hI1 hS hf (by decide)
  have mm9 := (th_F_o hf h0 ro_46 (j := 2) (by decide) (by decide)).trans mm8
  replace hF := hF.trans (dv_bn2 (z41_1))
  refine W.eq (g2 := F0 m 44 ls []) rfl ?_
  refine lv_aload_n hx hb gX12_adds_3.2.2.2.1 rfl (lv_at hl 1 rfl) ?_
  refine th_getK hC cf_X12 hB.1 h0 ro_46 rfl (j := 2) (by decide) mm9 kf_X12_28 gX12_adds_3.2.2.2.2.1 ?_
  refine lv_bipush (v := 69) hx hb gX12_adds_3.2.2.2.2.2.1 (by decide) ?_
  refine lv_dup2_11 hx hb gX12_adds_3.2.2.2.2.2.2.1 rfl rfl ?_
  refine th_ialdF hC hB.1 hb2 ro_48 rfl tk_69 (by omega) (by omega) (ek_many (by omega) (by omega)) gX12_adds_3.2.2.2.2.2.2.2 (fun x10 mx10 lx10 ux10 => ?_)
  replace hF := hF.trans (dv_bn (dv_aldI hB.1 hU hb2 ow_48 (z := 69) mx10 (by omega)))
  have vgx10 : mo_v G H41 a0 2 69 = x10.toInt := by rw [show (69 : Int) = 69 by omega]; exact mo_vat mm9 mx10 (by omega)
  have e51 : x10.toInt = x1.toInt := by rw [← vgx10, z41_0, mo_un (by omega), mo_un (by omega), vs37, mo_un (by omega), vs27, mo_un (by omega), vs16, mo_un (by omega)]; omega
  refine lv_iconst (v := 1) hx hb gX12_adds_4.1 (by decide) ?_
  refine tr_iadd hx hb gX12_adds_4.2.1 (Eq.refl _) tk_1 (by omega) (by omega) (fun x11 ex11 => ?_)
  replace hF := hF.trans (dv_bn (ex11.symm))
  have hIo := hB.1
  refine th_iastF hC hB hb2 (Or.inl hb2) ro_48 rfl (by decide) tk_69 (by omega) (by omega) (by rw [(ek_many (by omega) (by omega))]; exact (th_sI (by omega) (by omega))) gX12_adds_4.2.2.1 (fun H54 locs hB hf54 hst54 => ?_)
  have hf := hf54
  have mm12 := (th_F_o hf h0 ro_46 (j := 2) (by decide) (by decide)).trans mm9
  have hRC := th_RC_F hB.1 hR.1 hf (th_T_s hb2 ro_48 hst54) (by decide)
  replace hF := hF.trans (dv_bn (dv_stoI hIo hB.1 hU hb2 ow_48 (i := 69) hst54 (Eq.refl _) (by omega)))
  have vs54 : mo_v G H54 a0 2 = mo_u (mo_v G H41 a0 2) 69 x11.toInt := by rw [show (69 : Int) = 69 by omega]; exact mo_v_st h0 hb2 (by decide) mm9 hst54 (by omega)
  have hR := th_RE_st hB.1 hR h0 hb2 mm9 hf54 hst54 (by omega) (by omega)
  exact th_vret hC hH hr hlocks hB.2.1 ⟨rfl, hB.1, hB.2.2, hR, by rw [vs54, z41_0, vs37, vs27, vs16, ← q1_0, show x11.toInt = x1.toInt + 1 by omega]; rfl, (hF0.symm.trans hF)⟩ gX12_adds_4.2.2.2

set_option maxHeartbeats 4000000 in
set_option maxRecDepth 100000 in
theorem c_X12_hall (l : Launch) (G : th_G) (Γ : th_Ga) (H0 : Heap) (hI : th_I G Γ H0) (hU : dv_U Γ) (a0 : Nat) (h0 : Γ a0 = (46, 0)) (hR : th_RN a0 G Γ H0) (p1 : Int32) (p2 : Int32) : Met l yX12_hall (.code yX12_hall cX12_hall 3 (some FieldType.int) :: th_tb) ({ frames := 2, cells := 0, slots := 0, locals := 43 } : Room) (th_P [.ref a0, .int p1, .int p2] G H0) (th_Q (fun (v : Option Value) (H1 : Heap) => ∃ r : Int32, v = some (.int r) ∧ th_I G Γ H1 ∧ th_F G Γ [(47, 0), (46, 0), (48, 0), (46, 33)] H0 H1 ∧ th_RN a0 G Γ H1 ∧ (f_X12_hall (dv G Γ H0) (a0 : Int) p1.toInt p2.toInt = (dv G Γ H1, r.toInt))) G) 0 0 (fun q => G.1.2.2 ≤ q) := by
  refine th_met RX12 (by decide) rfl (Nat.le_of_ble_eq_true rfl) ?_
  intro p e s m below meth c hC hH hr hlocks hnm ls hl
  have hx := hC.1
  have hb := hC.2.1
  have hB : th_B G Γ Γ [(47, 0), (46, 0), (48, 0), (46, 33)] H0 H0 [] := ⟨hI, va_S.rf, th_F_rf⟩
  have hl : lv_has ls 3 [(0, .ref a0), (1, .int p1), (2, .int p2)] := hl
  have lp1 := ti_lo p1; have up1 := ti_hi p1
  have lp2 := ti_lo p2; have up2 := ti_hi p2
  obtain ⟨F, hF0⟩ : ∃ F, F = f_X12_hall (dv G Γ H0) ((a0 : Int)) (p1.toInt) (p2.toInt) := ⟨_, rfl⟩
  have hF := hF0.trans (f_X12_hall.eq_1 (dv G Γ H0) ((a0 : Int)) (p1.toInt) (p2.toInt))
  refine lv_iload_n hx hb gX12_hall_0.1 rfl (lv_at hl 1 rfl) ?_
  refine th_call (th_runS (As := [.int p1]) (rest := []) hC mf_X12_isSide km_X12_119 st_X12_isSide (c_X12_isSide l G Γ H0 hB.1 hU p1) rfl rfl ⟨Nat.le_of_ble_eq_true rfl, Nat.le_of_ble_eq_true rfl⟩ rfl hl.1 rfl (Nat.le_of_ble_eq_true rfl) gX12_hall_0.2.1 ⟨Nat.le_refl _, Nat.le_refl _⟩) hB.2.1 (fun v1 H1 locs hp hz hS => ?_)
  obtain ⟨x1, rfl, lx1, ux1, q1_0, q1_1, rfl⟩ := hp
  have hB := th_B_s hB hS
  replace hF := hF.trans (dv_bn2 (q1_1))
  refine W.eq (g2 := F0 m 4 ls [.int x1]) rfl ?_
  have jn14 : ∀ (locs : List Loc) (ls : Array Slot) , th_B G Γ Γ [(47, 0), (46, 0), (48, 0), (46, 33)] H0 H0 locs → lv_has ls 3 [(0, .ref a0)] → F = f_X12_hall_14 (dv G Γ H0) ((a0 : Int)) → W p l e ({ frames := 2, cells := 0, slots := 0, locals := 43 } : Room) s m ([.ref a0, .int p1, .int p2] : List Value).toArray below meth c H0 locs 0 0 (MQ below (th_Q (fun (v : Option Value) (H1 : Heap) => ∃ r : Int32, v = some (.int r) ∧ th_I G Γ H1 ∧ th_F G Γ [(47, 0), (46, 0), (48, 0), (46, 33)] H0 H1 ∧ th_RN a0 G Γ H1 ∧ (f_X12_hall (dv G Γ H0) (a0 : Int) p1.toInt p2.toInt = (dv G Γ H1, r.toInt))) G) ([.ref a0, .int p1, .int p2] : List Value).toArray s 0 0 (fun q => G.1.2.2 ≤ q)) (F0 m 14 ls []) := by
    intro locs ls hB hl hF
    replace hF := hF.trans (f_X12_hall_14.eq_1 (dv G Γ H0) ((a0 : Int)))
    refine lv_aload_n hx hb gX12_hall_0.2.2.2.2.2.2.1 rfl (lv_at hl 0 rfl) ?_
    refine lv_iconst (v := (-1)) hx hb gX12_hall_0.2.2.2.2.2.2.2 (by decide) ?_
    refine th_call (th_runV (As := [.int (-1)]) (rest := []) hC mf_X12_refuses km_X12_109 im_X12_refuses se_X12_refuses (c_X12_refuses l G Γ H0 hB.1 hR.1 hU a0 h0 (-1) (by decide) (by decide)) rfl rfl ⟨Nat.le_of_ble_eq_true rfl, Nat.le_of_ble_eq_true rfl⟩ hB.1 h0 ro_46 rfl rfl hl.1 rfl (Nat.le_of_ble_eq_true rfl) gX12_hall_1.1 ⟨Nat.le_refl _, Nat.le_refl _⟩) hB.2.1 (fun v16 H16 locs hp hz hS => ?_)
    have hRD := hR
    obtain ⟨x2, rfl, q16_0, hI1, hf, hR, z16_0⟩ := hp
    have hR := th_RN_c hR hRD hI1 h0 hf (by decide)
    have hB := th_B_c hB hI1 hS hf (by decide)
    have fv_H16_33 : mo_f G H16 a0 33 = mo_f G H0 a0 33 := mo_f_F hf h0 (by decide) (by decide)
    have vv_H16_2 : mo_v G H16 a0 2 = mo_v G H0 a0 2 := mo_v_F (r := 48) hB.1 hf h0 rfl ro_48 (by decide) (by decide)
    have vv_H16_3 : mo_v G H16 a0 3 = mo_v G H0 a0 3 := mo_v_F (r := 49) hB.1 hf h0 rfl ro_49 (by decide) (by decide)
    have vv_H16_4 : mo_v G H16 a0 4 = mo_v G H0 a0 4 := mo_v_F (r := 50) hB.1 hf h0 rfl ro_50 (by decide) (by decide)
    have vv_H16_31 : mo_v G H16 a0 31 = mo_v G H0 a0 31 := mo_v_F (r := 61) hB.1 hf h0 rfl ro_61 (by decide) (by decide)
    have w16_0 := tk_m1
    have zf16 := z16_0
    rw [tk_m1] at zf16
    replace hF := hF.trans (dv_bn2 (zf16))
    refine W.eq (g2 := F0 m 19 ls [.int x2]) rfl ?_
    exact th_iret hC hH hr hlocks rfl hB.2.1 ⟨_, rfl, hB.1, hB.2.2, hR, (hF0.symm.trans hF)⟩ gX12_hall_1.2.1
  refine tr_if_eq (tgt := 14) hx hb gX12_hall_0.2.2.1 (by decide) (Eq.refl _) (fun c4 => ?_) (fun c4 => ?_)
  · replace hF := hF.trans (if_pos c4)
    exact jn14 locs ls hB (lv_sub hl [0] rfl) hF
  · replace hF := hF.trans (if_neg c4)
    refine lv_iload_n hx hb gX12_hall_0.2.2.2.1 rfl (lv_at hl 2 rfl) ?_
    refine th_call (th_runS (As := [.int p2]) (rest := []) hC mf_X12_isSide km_X12_119 st_X12_isSide (c_X12_isSide l G Γ H0 hB.1 hU p2) rfl rfl ⟨Nat.le_of_ble_eq_true rfl, Nat.le_of_ble_eq_true rfl⟩ rfl hl.1 rfl (Nat.le_of_ble_eq_true rfl) gX12_hall_0.2.2.2.2.1 ⟨Nat.le_refl _, Nat.le_refl _⟩) hB.2.1 (fun v8 H8 locs hp hz hS => ?_)
    obtain ⟨x3, rfl, lx3, ux3, q8_0, q8_1, rfl⟩ := hp
    have hB := th_B_s hB hS
    replace hF := hF.trans (dv_bn2 (q8_1))
    refine W.eq (g2 := F0 m 11 ls [.int x3]) rfl ?_
    refine tr_if_ne (tgt := 20) hx hb gX12_hall_0.2.2.2.2.2.1 (by decide) (Eq.refl _) (fun c11 => ?_) (fun c11 => ?_)
    · replace hF := hF.trans (if_pos c11)
      refine lv_aload_n hx hb gX12_hall_1.2.2.1 rfl (lv_at hl 0 rfl) ?_
      refine th_call (th_runV (As := []) (rest := []) hC mf_X12_laidMany km_X12_143 im_X12_laidMany se_X12_laidMany (c_X12_laidMany l G Γ H0 hB.1 hU a0 h0) rfl rfl ⟨Nat.le_of_ble_eq_true rfl, Nat.le_of_ble_eq_true rfl⟩ hB.1 h0 ro_46 rfl rfl hl.1 rfl (Nat.le_of_ble_eq_true rfl) gX12_hall_1.2.2.2.1 ⟨Nat.le_refl _, Nat.le_refl _⟩) hB.2.1 (fun v21 H21 locs hp hz hS => ?_)
      obtain ⟨x4, rfl, lx4, ux4, q21_0, q21_1, rfl⟩ := hp
      have hB := th_B_s hB hS
      replace hF := hF.trans (dv_bn2 (q21_1))
      refine W.eq (g2 := F0 m 24 ls [.int x4]) rfl ?_
      refine tr_if_le (tgt := 34) hx hb gX12_hall_1.2.2.2.2.1 (by decide) (Eq.refl _) (fun c24 => ?_) (fun c24 => ?_)
      · replace hF := hF.trans (if_pos c24)
        refine lv_aload_n hx hb gX12_hall_2.2.1 rfl (lv_at hl 0 rfl) ?_
        have hR := th_NZ hR
        refine th_getO (j := 2) (r2 := 48) hC cf_X12 hB.1 h0 ro_46 rfl rfl kf_X12_28 gX12_hall_2.2.2.1 (fun b5 mb5 hb5 => ?_)
        refine lv_bipush (v := 67) hx hb gX12_hall_2.2.2.2.1 (by decide) ?_
        refine lv_iload_n hx hb gX12_hall_2.2.2.2.2.1 rfl (lv_at hl 1 rfl) ?_
        have hIo := hB.1
        refine th_iastF hC hB hb5 (Or.inl hb5) ro_48 rfl (by decide) tk_67 (by omega) (by omega) (by rw [(ek_hall (by omega) (by omega))]; exact (th_sI (by omega) (by omega))) gX12_hall_2.2.2.2.2.2.1 (fun H41 locs hB hf41 hst41 => ?_)
        have hf := hf41
        have mm6 := (th_F_o hf h0 ro_46 (j := 2) (by decide) (by decide)).trans mb5
        have hRC := th_RC_F hB.1 hR.1 hf (th_T_s hb5 ro_48 hst41) (by decide)
        have fv_H41_33 : mo_f G H41 a0 33 = mo_f G H0 a0 33 := mo_f_F hf h0 (by decide) (by decide)
        have vv_H41_3 : mo_v G H41 a0 3 = mo_v G H0 a0 3 := mo_v_F (r := 49) hB.1 hf h0 rfl ro_49 (by decide) (by decide)
        have vv_H41_4 : mo_v G H41 a0 4 = mo_v G H0 a0 4 := mo_v_F (r := 50) hB.1 hf h0 rfl ro_50 (by decide) (by decide)
        have vv_H41_31 : mo_v G H41 a0 31 = mo_v G H0 a0 31 := mo_v_F (r := 61) hB.1 hf h0 rfl ro_61 (by decide) (by decide)
        replace hF := hF.trans (dv_bn (dv_stoI hIo hB.1 hU hb5 ow_48 (i := 67) hst41 (Eq.refl _) (by omega)))
        have vs41 : mo_v G H41 a0 2 = mo_u (mo_v G H0 a0 2) 67 p1.toInt := by rw [show (67 : Int) = 67 by omega]; exact mo_v_st h0 hb5 (by decide) mb5 hst41 (by omega)
        refine lv_aload_n hx hb gX12_hall_2.2.2.2.2.2.2.1 rfl (lv_at hl 0 rfl) ?_
        refine th_getK hC cf_X12 hB.1 h0 ro_46 rfl (j := 2) (by decide) mm6 kf_X12_28 gX12_hall_2.2.2.2.2.2.2.2 ?_
        refine lv_bipush (v := 68) hx hb gX12_hall_3.1 (by decide) ?_
        refine lv_iload_n hx hb gX12_hall_3.2.1 rfl (lv_at hl 2 rfl) ?_
        have hIo := hB.1
        refine th_iastF hC hB hb5 (Or.inl hb5) ro_48 rfl (by decide) tk_68 (by omega) (by omega) (by rw [(ek_hall (by omega) (by omega))]; exact (th_sI (by omega) (by omega))) gX12_hall_3.2.2.1 (fun H49 locs hB hf49 hst49 => ?_)
        have hf := hf49
        have mm7 := (th_F_o hf h0 ro_46 (j := 2) (by decide) (by decide)).trans mm6
        have hRC := th_RC_F hB.1 hRC hf (th_T_s hb5 ro_48 hst49) (by decide)
        have fv_H49_33 : mo_f G H49 a0 33 = mo_f G H41 a0 33 := mo_f_F hf h0 (by decide) (by decide)
        have vv_H49_3 : mo_v G H49 a0 3 = mo_v G H41 a0 3 := mo_v_F (r := 49) hB.1 hf h0 rfl ro_49 (by decide) (by decide)
        have vv_H49_4 : mo_v G H49 a0 4 = mo_v G H41 a0 4 := mo_v_F (r := 50) hB.1 hf h0 rfl ro_50 (by decide) (by decide)
        have vv_H49_31 : mo_v G H49 a0 31 = mo_v G H41 a0 31 := mo_v_F (r := 61) hB.1 hf h0 rfl ro_61 (by decide) (by decide)
        replace hF := hF.trans (dv_bn (dv_stoI hIo hB.1 hU hb5 ow_48 (i := 68) hst49 (Eq.refl _) (by omega)))
        have vs49 : mo_v G H49 a0 2 = mo_u (mo_v G H41 a0 2) 68 p2.toInt := by rw [show (68 : Int) = 68 by omega]; exact mo_v_st h0 hb5 (by decide) mm6 hst49 (by omega)
        have hR : th_RZ a0 G Γ H49 := ⟨hRC, by rw [vs49, vs41, vv_H49_3, vv_H41_3, vv_H49_4, vv_H41_4]; exact ⟨mo_kg_hall hR.2.1 (by omega) (by omega) (q21_0 (by omega)), hR.2.2⟩⟩
        refine lv_aload_n hx hb gX12_hall_3.2.2.2.1 rfl (lv_at hl 0 rfl) ?_
        refine lv_iload_n hx hb gX12_hall_3.2.2.2.2.1 rfl (lv_at hl 1 rfl) ?_
        refine lv_iload_n hx hb gX12_hall_3.2.2.2.2.2.1 rfl (lv_at hl 2 rfl) ?_
        have q9 := ti_mulr (a := p1.toInt) (b := p2.toInt) (A := 12) (B := 12) (by omega) (by omega) (by omega) (by omega)
        generalize hex8 : p1.toInt * p2.toInt = wx8 at q9
        refine tr_imul hx hb gX12_hall_3.2.2.2.2.2.2.1 (Eq.refl _) (Eq.refl _) (by rw [hex8]; omega) (by rw [hex8]; omega) (fun x8 ex8 => ?_)
        rw [hex8] at ex8
        replace hF := hF.trans (dv_bn (hex8.trans ex8.symm))
        refine th_call (th_runV (As := [.int x8]) (rest := []) hC mf_X12_settled km_X12_112 im_X12_settled se_X12_settled (c_X12_settled l G Γ H49 hB.1 hR.1 hU a0 h0 x8) rfl rfl ⟨Nat.le_of_ble_eq_true rfl, Nat.le_of_ble_eq_true rfl⟩ hB.1 h0 ro_46 rfl rfl hl.1 rfl (Nat.le_of_ble_eq_true rfl) gX12_hall_3.2.2.2.2.2.2.2 ⟨Nat.le_refl _, Nat.le_refl _⟩) hB.2.1 (fun v54 H54 locs hp hz hS => ?_)
        have hRD := hR
        obtain ⟨x10, rfl, q54_0, hI1, hf, hR, z54_0, z54_1⟩ := hp
        have hR := th_RZ_c hR hRD hI1 h0 hf (by decide)
        have hB := th_B_c hB hI1 hS hf (by decide)
        have mm11 := (th_F_o hf h0 ro_46 (j := 2) (by decide) (by decide)).trans mm7
        have vv_H54_2 : mo_v G H54 a0 2 = mo_v G H49 a0 2 := mo_v_F (r := 48) hB.1 hf h0 rfl ro_48 (by decide) (by decide)
        have vv_H54_3 : mo_v G H54 a0 3 = mo_v G H49 a0 3 := mo_v_F (r := 49) hB.1 hf h0 rfl ro_49 (by decide) (by decide)
        have vv_H54_4 : mo_v G H54 a0 4 = mo_v G H49 a0 4 := mo_v_F (r := 50) hB.1 hf h0 rfl ro_50 (by decide) (by decide)
        have vv_H54_31 : mo_v G H54 a0 31 = mo_v G H49 a0 31 := mo_v_F (r := 61) hB.1 hf h0 rfl ro_61 (by decide) (by decide)
        replace hF := hF.trans (dv_bn2 (z54_1))
        refine W.eq (g2 := F0 m 57 ls [.int x10]) rfl ?_
        have hR := th_ZN hR z54_0
        exact th_iret hC hH hr hlocks rfl hB.2.1 ⟨_, rfl, hB.1, hB.2.2, hR, (hF0.symm.trans hF)⟩ gX12_hall_4
      · replace hF := hF.trans (if_neg (Int.not_le.mpr c24))
        refine lv_aload_n hx hb gX12_hall_1.2.2.2.2.2.1 rfl (lv_at hl 0 rfl) ?_
        refine lv_bipush (v := (-3)) hx hb gX12_hall_1.2.2.2.2.2.2.1 (by decide) ?_
        refine th_call (th_runV (As := [.int (-3)]) (rest := []) hC mf_X12_refuses km_X12_109 im_X12_refuses se_X12_refuses (c_X12_refuses l G Γ H0 hB.1 hR.1 hU a0 h0 (-3) (by decide) (by decide)) rfl rfl ⟨Nat.le_of_ble_eq_true rfl, Nat.le_of_ble_eq_true rfl⟩ hB.1 h0 ro_46 rfl rfl hl.1 rfl (Nat.le_of_ble_eq_true rfl) gX12_hall_1.2.2.2.2.2.2.2 ⟨Nat.le_refl _, Nat.le_refl _⟩) hB.2.1 (fun v30 H30 locs hp hz hS => ?_)
        have hRD := hR
        obtain ⟨x12, rfl, q30_0, hI1, hf, hR, z30_0⟩ := hp
        have hR := th_RN_c hR hRD hI1 h0 hf (by decide)
        have hB := th_B_c hB hI1 hS hf (by decide)
        have fv_H30_33 : mo_f G H30 a0 33 = mo_f G H0 a0 33 := mo_f_F hf h0 (by decide) (by decide)
        have vv_H30_2 : mo_v G H30 a0 2 = mo_v G H0 a0 2 := mo_v_F (r := 48) hB.1 hf h0 rfl ro_48 (by decide) (by decide)
        have vv_H30_3 : mo_v G H30 a0 3 = mo_v G H0 a0 3 := mo_v_F (r := 49) hB.1 hf h0 rfl ro_49 (by decide) (by decide)
        have vv_H30_4 : mo_v G H30 a0 4 = mo_v G H0 a0 4 := mo_v_F (r := 50) hB.1 hf h0 rfl ro_50 (by decide) (by decide)
        have vv_H30_31 : mo_v G H30 a0 31 = mo_v G H0 a0 31 := mo_v_F (r := 61) hB.1 hf h0 rfl ro_61 (by decide) (by decide)
        have w30_0 := tk_m3
        have zf30 := z30_0
        rw [tk_m3] at zf30
        replace hF := hF.trans (dv_bn2 (zf30))
        refine W.eq (g2 := F0 m 33 ls [.int x12]) rfl ?_
        exact th_iret hC hH hr hlocks rfl hB.2.1 ⟨_, rfl, hB.1, hB.2.2, hR, (hF0.symm.trans hF)⟩ gX12_hall_2.1
    · replace hF := hF.trans (if_neg (not_not_intro c11))
      exact jn14 locs ls hB (lv_sub hl [0] rfl) hF

set_option maxHeartbeats 4000000 in
set_option maxRecDepth 100000 in
theorem c_X12_carpet (l : Launch) (G : th_G) (Γ : th_Ga) (H0 : Heap) (hI : th_I G Γ H0) (hU : dv_U Γ) (a0 : Nat) (h0 : Γ a0 = (46, 0)) (hR : th_RN a0 G Γ H0) (p1 : Int32) (p2 : Int32) (p3 : Int32) : Met l yX12_carpet (.code yX12_carpet cX12_carpet 4 (some FieldType.int) :: th_tb) ({ frames := 3, cells := 0, slots := 0, locals := 64 } : Room) (th_P [.ref a0, .int p1, .int p2, .int p3] G H0) (th_Q (fun (v : Option Value) (H1 : Heap) => ∃ r : Int32, v = some (.int r) ∧ th_I G Γ H1 ∧ th_F G Γ [(47, 0), (46, 0), (48, 0), (46, 33)] H0 H1 ∧ th_RN a0 G Γ H1 ∧ (f_X12_carpet (dv G Γ H0) (a0 : Int) p1.toInt p2.toInt p3.toInt = (dv G Γ H1, r.toInt))) G) 0 0 (fun q => G.1.2.2 ≤ q) := by
  refine th_met RX12 (by decide) rfl (Nat.le_of_ble_eq_true rfl) ?_
  intro p e s m below meth c hC hH hr hlocks hnm ls hl
  have hx := hC.1
  have hb := hC.2.1
  have hB : th_B G Γ Γ [(47, 0), (46, 0), (48, 0), (46, 33)] H0 H0 [] := ⟨hI, va_S.rf, th_F_rf⟩
  have hl : lv_has ls 4 [(0, .ref a0), (1, .int p1), (2, .int p2), (3, .int p3)] := hl
  have lp1 := ti_lo p1; have up1 := ti_hi p1
  have lp2 := ti_lo p2; have up2 := ti_hi p2
  have lp3 := ti_lo p3; have up3 := ti_hi p3
  obtain ⟨F, hF0⟩ : ∃ F, F = f_X12_carpet (dv G Γ H0) ((a0 : Int)) (p1.toInt) (p2.toInt) (p3.toInt) := ⟨_, rfl⟩
  have hF := hF0.trans (f_X12_carpet.eq_1 (dv G Γ H0) ((a0 : Int)) (p1.toInt) (p2.toInt) (p3.toInt))
  refine lv_iload_n hx hb gX12_carpet_0.1 rfl (lv_at hl 1 rfl) ?_
  refine lv_iload_n hx hb gX12_carpet_0.2.1 rfl (lv_at hl 2 rfl) ?_
  refine lv_iload_n hx hb gX12_carpet_0.2.2.1 rfl (lv_at hl 3 rfl) ?_
  refine th_call (th_runS (As := [.int p1, .int p2, .int p3]) (rest := []) hC mf_X12_canBe km_X12_127 st_X12_canBe (c_X12_canBe l G Γ H0 hB.1 hU p1 p2 p3) rfl rfl ⟨Nat.le_of_ble_eq_true rfl, Nat.le_of_ble_eq_true rfl⟩ rfl hl.1 rfl (Nat.le_of_ble_eq_true rfl) gX12_carpet_0.2.2.2.1 ⟨Nat.le_refl _, Nat.le_refl _⟩) hB.2.1 (fun v3 H3 locs hp hz hS => ?_)
  obtain ⟨x1, rfl, lx1, ux1, q3_0, q3_1, rfl⟩ := hp
  have hB := th_B_s hB hS
  replace hF := hF.trans (dv_bn2 (q3_1))
  refine W.eq (g2 := F0 m 6 ls [.int x1]) rfl ?_
  refine tr_if_ne (tgt := 15) hx hb gX12_carpet_0.2.2.2.2.1 (by decide) (Eq.refl _) (fun c6 => ?_) (fun c6 => ?_)
  · replace hF := hF.trans (if_pos c6)
    refine lv_aload_n hx hb gX12_carpet_1.2.1 rfl (lv_at hl 0 rfl) ?_
    refine th_call (th_runV (As := []) (rest := []) hC mf_X12_many km_X12_115 im_X12_many se_X12_many (c_X12_many l G Γ H0 hB.1 hU a0 h0) rfl rfl ⟨Nat.le_of_ble_eq_true rfl, Nat.le_of_ble_eq_true rfl⟩ hB.1 h0 ro_46 rfl rfl hl.1 rfl (Nat.le_of_ble_eq_true rfl) gX12_carpet_1.2.2.1 ⟨Nat.le_refl _, Nat.le_refl _⟩) hB.2.1 (fun v16 H16 locs hp hz hS => ?_)
    obtain ⟨x2, rfl, lx2, ux2, q16_0, q16_1, rfl⟩ := hp
    have hB := th_B_s hB hS
    replace hF := hF.trans (dv_bn2 (q16_1))
    refine W.eq (g2 := F0 m 19 ls [.int x2]) rfl ?_
    have e16 := q16_0
    refine lv_bipush (v := 9) hx hb gX12_carpet_1.2.2.2.1 (by decide) ?_
    refine tr_icmp_ne (tgt := 31) hx hb gX12_carpet_1.2.2.2.2.1 (by decide) (Eq.refl _) tk_9 (fun c21 => ?_) (fun c21 => ?_)
    · replace hF := hF.trans (if_pos c21)
      refine lv_aload_n hx hb gX12_carpet_2.2.1 rfl (lv_at hl 0 rfl) ?_
      have hR := th_NZ hR
      refine lv_iload_n hx hb gX12_carpet_2.2.2.1 rfl (lv_at hl 1 rfl) ?_
      refine lv_iload_n hx hb gX12_carpet_2.2.2.2.1 rfl (lv_at hl 2 rfl) ?_
      refine lv_iload_n hx hb gX12_carpet_2.2.2.2.2.1 rfl (lv_at hl 3 rfl) ?_
      refine th_call (th_runV (As := [.int p1, .int p2, .int p3]) (rest := []) hC mf_X12_adds km_X12_130 im_X12_adds se_X12_adds (c_X12_adds l G Γ H0 hB.1 hU a0 h0 (th_KE (th_ZK hR)) p1 (by omega) (by omega) p2 p3 (by omega)) rfl rfl ⟨Nat.le_of_ble_eq_true rfl, Nat.le_of_ble_eq_true rfl⟩ hB.1 h0 ro_46 rfl rfl hl.1 rfl (Nat.le_of_ble_eq_true rfl) gX12_carpet_2.2.2.2.2.2.1 ⟨Nat.le_refl _, Nat.le_refl _⟩) hB.2.1 (fun v35 H35 locs hp hz hS => ?_)
      have hRD := hR
      obtain ⟨rfl, hI1, hf, hR, z35_0, z35_1⟩ := hp
      have hRc35 := hR
      have hR := hRD
      have hRC := hRc35.1
      have hB := th_B_c hB hI1 hS hf (by decide)
      have fv_H35_33 : mo_f G H35 a0 33 = mo_f G H0 a0 33 := mo_f_F hf h0 (by decide) (by decide)
      have vv_H35_3 : mo_v G H35 a0 3 = mo_v G H0 a0 3 := mo_v_F (r := 49) hB.1 hf h0 rfl ro_49 (by decide) (by decide)
      have vv_H35_4 : mo_v G H35 a0 4 = mo_v G H0 a0 4 := mo_v_F (r := 50) hB.1 hf h0 rfl ro_50 (by decide) (by decide)
      have vv_H35_31 : mo_v G H35 a0 31 = mo_v G H0 a0 31 := mo_v_F (r := 61) hB.1 hf h0 rfl ro_61 (by decide) (by decide)
      replace hF := hF.trans (dv_bn2 (z35_1))
      refine W.eq (g2 := F0 m 38 ls []) rfl ?_
      have hR : th_RZ a0 G Γ H35 := ⟨hRC, by rw [z35_0, vv_H35_3, vv_H35_4]; exact ⟨mo_kg_ad hR.2.1 rfl (by omega) (by omega) (by omega), hR.2.2⟩⟩
      refine lv_aload_n hx hb gX12_carpet_2.2.2.2.2.2.2.1 rfl (lv_at hl 0 rfl) ?_
      refine lv_aload_n hx hb gX12_carpet_2.2.2.2.2.2.2.2 rfl (lv_at hl 0 rfl) ?_
      refine th_call (th_runV (As := []) (rest := [.ref a0]) hC mf_X12_many km_X12_115 im_X12_many se_X12_many (c_X12_many l G Γ H35 hB.1 hU a0 h0) rfl rfl ⟨Nat.le_of_ble_eq_true rfl, Nat.le_of_ble_eq_true rfl⟩ hB.1 h0 ro_46 rfl rfl hl.1 rfl (Nat.le_of_ble_eq_true rfl) gX12_carpet_3.1 ⟨Nat.le_refl _, Nat.le_refl _⟩) hB.2.1 (fun v40 H40 locs hp hz hS => ?_)
      obtain ⟨x3, rfl, lx3, ux3, q40_0, q40_1, rfl⟩ := hp
      have hB := th_B_s hB hS
      replace hF := hF.trans (dv_bn2 (q40_1))
      refine W.eq (g2 := F0 m 43 ls [.int x3, .ref a0]) rfl ?_
      refine lv_iconst (v := 1) hx hb gX12_carpet_3.2.1 (by decide) ?_
      refine tr_isub hx hb gX12_carpet_3.2.2.1 (Eq.refl _) tk_1 (by omega) (by omega) (fun x4 ex4 => ?_)
      replace hF := hF.trans (dv_bn (ex4.symm))
      refine th_call (th_runV (As := [.int x4]) (rest := []) hC mf_X12_settled km_X12_112 im_X12_settled se_X12_settled (c_X12_settled l G Γ H35 hB.1 hR.1 hU a0 h0 x4) rfl rfl ⟨Nat.le_of_ble_eq_true rfl, Nat.le_of_ble_eq_true rfl⟩ hB.1 h0 ro_46 rfl rfl hl.1 rfl (Nat.le_of_ble_eq_true rfl) gX12_carpet_3.2.2.2.1 ⟨Nat.le_refl _, Nat.le_refl _⟩) hB.2.1 (fun v45 H45 locs hp hz hS => ?_)
      have hRD := hR
      obtain ⟨x5, rfl, q45_0, hI1, hf, hR, z45_0, z45_1⟩ := hp
      have hR := th_RZ_c hR hRD hI1 h0 hf (by decide)
      have hB := th_B_c hB hI1 hS hf (by decide)
      have vv_H45_2 : mo_v G H45 a0 2 = mo_v G H35 a0 2 := mo_v_F (r := 48) hB.1 hf h0 rfl ro_48 (by decide) (by decide)
      have vv_H45_3 : mo_v G H45 a0 3 = mo_v G H35 a0 3 := mo_v_F (r := 49) hB.1 hf h0 rfl ro_49 (by decide) (by decide)
      have vv_H45_4 : mo_v G H45 a0 4 = mo_v G H35 a0 4 := mo_v_F (r := 50) hB.1 hf h0 rfl ro_50 (by decide) (by decide)
      have vv_H45_31 : mo_v G H45 a0 31 = mo_v G H35 a0 31 := mo_v_F (r := 61) hB.1 hf h0 rfl ro_61 (by decide) (by decide)
      replace hF := hF.trans (dv_bn2 (z45_1))
      refine W.eq (g2 := F0 m 48 ls [.int x5]) rfl ?_
      have hR := th_ZN hR z45_0
      exact th_iret hC hH hr hlocks rfl hB.2.1 ⟨_, rfl, hB.1, hB.2.2, hR, (hF0.symm.trans hF)⟩ gX12_carpet_3.2.2.2.2
    · replace hF := hF.trans (if_neg (not_not_intro c21))
      refine lv_aload_n hx hb gX12_carpet_1.2.2.2.2.2.1 rfl (lv_at hl 0 rfl) ?_
      refine lv_bipush (v := (-5)) hx hb gX12_carpet_1.2.2.2.2.2.2.1 (by decide) ?_
      refine th_call (th_runV (As := [.int (-5)]) (rest := []) hC mf_X12_refuses km_X12_109 im_X12_refuses se_X12_refuses (c_X12_refuses l G Γ H0 hB.1 hR.1 hU a0 h0 (-5) (by decide) (by decide)) rfl rfl ⟨Nat.le_of_ble_eq_true rfl, Nat.le_of_ble_eq_true rfl⟩ hB.1 h0 ro_46 rfl rfl hl.1 rfl (Nat.le_of_ble_eq_true rfl) gX12_carpet_1.2.2.2.2.2.2.2 ⟨Nat.le_refl _, Nat.le_refl _⟩) hB.2.1 (fun v27 H27 locs hp hz hS => ?_)
      have hRD := hR
      obtain ⟨x6, rfl, q27_0, hI1, hf, hR, z27_0⟩ := hp
      have hR := th_RN_c hR hRD hI1 h0 hf (by decide)
      have hB := th_B_c hB hI1 hS hf (by decide)
      have fv_H27_33 : mo_f G H27 a0 33 = mo_f G H0 a0 33 := mo_f_F hf h0 (by decide) (by decide)
      have vv_H27_2 : mo_v G H27 a0 2 = mo_v G H0 a0 2 := mo_v_F (r := 48) hB.1 hf h0 rfl ro_48 (by decide) (by decide)
      have vv_H27_3 : mo_v G H27 a0 3 = mo_v G H0 a0 3 := mo_v_F (r := 49) hB.1 hf h0 rfl ro_49 (by decide) (by decide)
      have vv_H27_4 : mo_v G H27 a0 4 = mo_v G H0 a0 4 := mo_v_F (r := 50) hB.1 hf h0 rfl ro_50 (by decide) (by decide)
      have vv_H27_31 : mo_v G H27 a0 31 = mo_v G H0 a0 31 := mo_v_F (r := 61) hB.1 hf h0 rfl ro_61 (by decide) (by decide)
      have w27_0 := tk_m5
      have zf27 := z27_0
      rw [tk_m5] at zf27
      replace hF := hF.trans (dv_bn2 (zf27))
      refine W.eq (g2 := F0 m 30 ls [.int x6]) rfl ?_
      exact th_iret hC hH hr hlocks rfl hB.2.1 ⟨_, rfl, hB.1, hB.2.2, hR, (hF0.symm.trans hF)⟩ gX12_carpet_2.1
  · replace hF := hF.trans (if_neg (not_not_intro c6))
    refine lv_aload_n hx hb gX12_carpet_0.2.2.2.2.2.1 rfl (lv_at hl 0 rfl) ?_
    refine lv_iconst (v := (-1)) hx hb gX12_carpet_0.2.2.2.2.2.2.1 (by decide) ?_
    refine th_call (th_runV (As := [.int (-1)]) (rest := []) hC mf_X12_refuses km_X12_109 im_X12_refuses se_X12_refuses (c_X12_refuses l G Γ H0 hB.1 hR.1 hU a0 h0 (-1) (by decide) (by decide)) rfl rfl ⟨Nat.le_of_ble_eq_true rfl, Nat.le_of_ble_eq_true rfl⟩ hB.1 h0 ro_46 rfl rfl hl.1 rfl (Nat.le_of_ble_eq_true rfl) gX12_carpet_0.2.2.2.2.2.2.2 ⟨Nat.le_refl _, Nat.le_refl _⟩) hB.2.1 (fun v11 H11 locs hp hz hS => ?_)
    have hRD := hR
    obtain ⟨x7, rfl, q11_0, hI1, hf, hR, z11_0⟩ := hp
    have hR := th_RN_c hR hRD hI1 h0 hf (by decide)
    have hB := th_B_c hB hI1 hS hf (by decide)
    have fv_H11_33 : mo_f G H11 a0 33 = mo_f G H0 a0 33 := mo_f_F hf h0 (by decide) (by decide)
    have vv_H11_2 : mo_v G H11 a0 2 = mo_v G H0 a0 2 := mo_v_F (r := 48) hB.1 hf h0 rfl ro_48 (by decide) (by decide)
    have vv_H11_3 : mo_v G H11 a0 3 = mo_v G H0 a0 3 := mo_v_F (r := 49) hB.1 hf h0 rfl ro_49 (by decide) (by decide)
    have vv_H11_4 : mo_v G H11 a0 4 = mo_v G H0 a0 4 := mo_v_F (r := 50) hB.1 hf h0 rfl ro_50 (by decide) (by decide)
    have vv_H11_31 : mo_v G H11 a0 31 = mo_v G H0 a0 31 := mo_v_F (r := 61) hB.1 hf h0 rfl ro_61 (by decide) (by decide)
    have w11_0 := tk_m1
    have zf11 := z11_0
    rw [tk_m1] at zf11
    replace hF := hF.trans (dv_bn2 (zf11))
    refine W.eq (g2 := F0 m 14 ls [.int x7]) rfl ?_
    exact th_iret hC hH hr hlocks rfl hB.2.1 ⟨_, rfl, hB.1, hB.2.2, hR, (hF0.symm.trans hF)⟩ gX12_carpet_1.1

set_option maxHeartbeats 4000000 in
set_option maxRecDepth 100000 in
theorem c_X12_terms (l : Launch) (G : th_G) (Γ : th_Ga) (H0 : Heap) (hI : th_I G Γ H0) (hU : dv_U Γ) (a0 : Nat) (h0 : Γ a0 = (46, 0)) (hR : th_RN a0 G Γ H0) (p1 : Int32) (p2 : Int32) : Met l yX12_terms (.code yX12_terms cX12_terms 4 (some FieldType.int) :: th_tb) ({ frames := 2, cells := 0, slots := 0, locals := 43 } : Room) (th_P [.ref a0, .int p1, .int p2] G H0) (th_Q (fun (v : Option Value) (H1 : Heap) => ∃ r : Int32, v = some (.int r) ∧ th_I G Γ H1 ∧ th_F G Γ [(47, 0), (46, 0), (48, 0), (46, 33)] H0 H1 ∧ th_RN a0 G Γ H1 ∧ (f_X12_terms (dv G Γ H0) (a0 : Int) p1.toInt p2.toInt = (dv G Γ H1, r.toInt))) G) 0 0 (fun q => G.1.2.2 ≤ q) := by
  refine th_met RX12 (by decide) rfl (Nat.le_of_ble_eq_true rfl) ?_
  intro p e s m below meth c hC hH hr hlocks hnm ls hl
  have hx := hC.1
  have hb := hC.2.1
  have hB : th_B G Γ Γ [(47, 0), (46, 0), (48, 0), (46, 33)] H0 H0 [] := ⟨hI, va_S.rf, th_F_rf⟩
  have hl : lv_has ls 4 [(0, .ref a0), (1, .int p1), (2, .int p2)] := hl
  have lp1 := ti_lo p1; have up1 := ti_hi p1
  have lp2 := ti_lo p2; have up2 := ti_hi p2
  obtain ⟨F, hF0⟩ : ∃ F, F = f_X12_terms (dv G Γ H0) ((a0 : Int)) (p1.toInt) (p2.toInt) := ⟨_, rfl⟩
  have hF := hF0.trans (f_X12_terms.eq_1 (dv G Γ H0) ((a0 : Int)) (p1.toInt) (p2.toInt))
  refine lv_iload_n hx hb gX12_terms_0.1 rfl (lv_at hl 1 rfl) ?_
  refine lv_iload_n hx hb gX12_terms_0.2.1 rfl (lv_at hl 2 rfl) ?_
  refine th_call (th_runS (As := [.int p1, .int p2]) (rest := []) hC mf_X12_isTerm km_X12_162 st_X12_isTerm (c_X12_isTerm l G Γ H0 hB.1 hU p1 p2) rfl rfl ⟨Nat.le_of_ble_eq_true rfl, Nat.le_of_ble_eq_true rfl⟩ rfl hl.1 rfl (Nat.le_of_ble_eq_true rfl) gX12_terms_0.2.2.1 ⟨Nat.le_refl _, Nat.le_refl _⟩) hB.2.1 (fun v2 H2 locs hp hz hS => ?_)
  obtain ⟨x1, rfl, lx1, ux1, q2_0, q2_1, rfl⟩ := hp
  have hB := th_B_s hB hS
  replace hF := hF.trans (dv_bn2 (q2_1))
  refine W.eq (g2 := F0 m 5 ls [.int x1]) rfl ?_
  refine tr_if_ne (tgt := 14) hx hb gX12_terms_0.2.2.2.1 (by decide) (Eq.refl _) (fun c5 => ?_) (fun c5 => ?_)
  · replace hF := hF.trans (if_pos c5)
    refine lv_aload_n hx hb gX12_terms_1.1 rfl (lv_at hl 0 rfl) ?_
    have hR := th_NZ hR
    refine th_getO (j := 2) (r2 := 48) hC cf_X12 hB.1 h0 ro_46 rfl rfl kf_X12_28 gX12_terms_1.2.1 (fun b2 mb2 hb2 => ?_)
    refine lv_iload_n hx hb gX12_terms_1.2.2.1 rfl (lv_at hl 1 rfl) ?_
    refine th_call (th_runS (As := [.int p1]) (rest := [.ref b2]) hC mf_X12_termAt km_X12_166 st_X12_termAt (c_X12_termAt l G Γ H0 hB.1 hU p1) rfl rfl ⟨Nat.le_of_ble_eq_true rfl, Nat.le_of_ble_eq_true rfl⟩ rfl hl.1 rfl (Nat.le_of_ble_eq_true rfl) gX12_terms_1.2.2.2.1 ⟨Nat.le_refl _, Nat.le_refl _⟩) hB.2.1 (fun v19 H19 locs hp hz hS => ?_)
    obtain ⟨x3, rfl, lx3, ux3, q19_0, q19_1, rfl⟩ := hp
    have hB := th_B_s hB hS
    replace hF := hF.trans (dv_bn2 (q19_1))
    refine W.eq (g2 := F0 m 22 ls [.int x3, .ref b2]) rfl ?_
    refine th_ialdF hC hB.1 hb2 ro_48 rfl (Eq.refl _) (by omega) (by omega) (ek_t (by omega) (by omega)) gX12_terms_1.2.2.2.2.1 (fun x4 mx4 lx4 ux4 => ?_)
    replace hF := hF.trans (dv_bn (dv_aldI hB.1 hU hb2 ow_48 (z := x3.toInt) mx4 (by omega)))
    have vgx4 : mo_v G H0 a0 2 x3.toInt = x4.toInt := by rw [show (x3.toInt : Int) = x3.toInt by omega]; exact mo_vat mb2 mx4 (by omega)
    refine lv_istore_n (lv' := [(3, .int x4), (0, .ref a0), (1, .int p1), (2, .int p2)]) hx hb gX12_terms_1.2.2.2.2.2.1 rfl hl (by decide) rfl (fun ls hl => ?_)
    refine lv_aload_n hx hb gX12_terms_1.2.2.2.2.2.2.1 rfl (lv_at hl 1 rfl) ?_
    refine th_getK hC cf_X12 hB.1 h0 ro_46 rfl (j := 2) (by decide) mb2 kf_X12_28 gX12_terms_1.2.2.2.2.2.2.2 ?_
    refine lv_iload_n hx hb gX12_terms_2.1 rfl (lv_at hl 2 rfl) ?_
    refine th_call (th_runS (As := [.int p1]) (rest := [.ref b2]) hC mf_X12_termAt km_X12_166 st_X12_termAt (c_X12_termAt l G Γ H0 hB.1 hU p1) rfl rfl ⟨Nat.le_of_ble_eq_true rfl, Nat.le_of_ble_eq_true rfl⟩ rfl hl.1 rfl (Nat.le_of_ble_eq_true rfl) gX12_terms_2.2.1 ⟨Nat.le_refl _, Nat.le_refl _⟩) hB.2.1 (fun v29 H29 locs hp hz hS => ?_)
    obtain ⟨x5, rfl, lx5, ux5, q29_0, q29_1, rfl⟩ := hp
    have hB := th_B_s hB hS
    replace hF := hF.trans (dv_bn2 (q29_1))
    refine W.eq (g2 := F0 m 32 ls [.int x5, .ref b2]) rfl ?_
    refine lv_iload_n hx hb gX12_terms_2.2.2.1 rfl (lv_at hl 3 rfl) ?_
    have hIo := hB.1
    refine th_iastF hC hB hb2 (Or.inl hb2) ro_48 rfl (by decide) (Eq.refl _) (by omega) (by omega) (by rw [(ek_t (by omega) (by omega))]; exact th_sIa) gX12_terms_2.2.2.2.1 (fun H33 locs hB hf33 hst33 => ?_)
    have hf := hf33
    have mm6 := (th_F_o hf h0 ro_46 (j := 2) (by decide) (by decide)).trans mb2
    have hRC := th_RC_F hB.1 hR.1 hf (th_T_s hb2 ro_48 hst33) (by decide)
    have fv_H33_33 : mo_f G H33 a0 33 = mo_f G H0 a0 33 := mo_f_F hf h0 (by decide) (by decide)
    have vv_H33_3 : mo_v G H33 a0 3 = mo_v G H0 a0 3 := mo_v_F (r := 49) hB.1 hf h0 rfl ro_49 (by decide) (by decide)
    have vv_H33_4 : mo_v G H33 a0 4 = mo_v G H0 a0 4 := mo_v_F (r := 50) hB.1 hf h0 rfl ro_50 (by decide) (by decide)
    have vv_H33_31 : mo_v G H33 a0 31 = mo_v G H0 a0 31 := mo_v_F (r := 61) hB.1 hf h0 rfl ro_61 (by decide) (by decide)
    replace hF := hF.trans (dv_bn (dv_stoI hIo hB.1 hU hb2 ow_48 (i := x5.toInt) hst33 (Eq.refl _) (by omega)))
    have vs33 : mo_v G H33 a0 2 = mo_u (mo_v G H0 a0 2) x5.toInt p2.toInt := by rw [show (x5.toInt : Int) = x5.toInt by omega]; exact mo_v_st h0 hb2 (by decide) mb2 hst33 (by omega)
    have hR : th_RZ a0 G Γ H33 := ⟨hRC, by rw [vs33, vv_H33_3, vv_H33_4]; exact ⟨(fun q9 => mo_kg_gx q9 (mo_gx_u (by omega)) (mo_lw_u q9.1 (by omega))) hR.2.1, hR.2.2⟩⟩
    refine lv_aload_n hx hb gX12_terms_2.2.2.2.2.1 rfl (lv_at hl 1 rfl) ?_
    refine lv_iload_n hx hb gX12_terms_2.2.2.2.2.2.1 rfl (lv_at hl 0 rfl) ?_
    refine th_call (th_runV (As := [.int x4]) (rest := []) hC mf_X12_settled km_X12_112 im_X12_settled se_X12_settled (c_X12_settled l G Γ H33 hB.1 hR.1 hU a0 h0 x4) rfl rfl ⟨Nat.le_of_ble_eq_true rfl, Nat.le_of_ble_eq_true rfl⟩ hB.1 h0 ro_46 rfl rfl hl.1 rfl (Nat.le_of_ble_eq_true rfl) gX12_terms_2.2.2.2.2.2.2.1 ⟨Nat.le_refl _, Nat.le_refl _⟩) hB.2.1 (fun v36 H36 locs hp hz hS => ?_)
    have hRD := hR
    obtain ⟨x7, rfl, q36_0, hI1, hf, hR, z36_0, z36_1⟩ := hp
    have hR := th_RZ_c hR hRD hI1 h0 hf (by decide)
    have hB := th_B_c hB hI1 hS hf (by decide)
    have mm8 := (th_F_o hf h0 ro_46 (j := 2) (by decide) (by decide)).trans mm6
    have vv_H36_2 : mo_v G H36 a0 2 = mo_v G H33 a0 2 := mo_v_F (r := 48) hB.1 hf h0 rfl ro_48 (by decide) (by decide)
    have vv_H36_3 : mo_v G H36 a0 3 = mo_v G H33 a0 3 := mo_v_F (r := 49) hB.1 hf h0 rfl ro_49 (by decide) (by decide)
    have vv_H36_4 : mo_v G H36 a0 4 = mo_v G H33 a0 4 := mo_v_F (r := 50) hB.1 hf h0 rfl ro_50 (by decide) (by decide)
    have vv_H36_31 : mo_v G H36 a0 31 = mo_v G H33 a0 31 := mo_v_F (r := 61) hB.1 hf h0 rfl ro_61 (by decide) (by decide)
    replace hF := hF.trans (dv_bn2 (z36_1))
    refine W.eq (g2 := F0 m 39 ls [.int x7]) rfl ?_
    have hR := th_ZN hR z36_0
    exact th_iret hC hH hr hlocks rfl hB.2.1 ⟨_, rfl, hB.1, hB.2.2, hR, (hF0.symm.trans hF)⟩ gX12_terms_2.2.2.2.2.2.2.2
  · replace hF := hF.trans (if_neg (not_not_intro c5))
    refine lv_aload_n hx hb gX12_terms_0.2.2.2.2.1 rfl (lv_at hl 0 rfl) ?_
    refine lv_iconst (v := (-1)) hx hb gX12_terms_0.2.2.2.2.2.1 (by decide) ?_
    refine th_call (th_runV (As := [.int (-1)]) (rest := []) hC mf_X12_refuses km_X12_109 im_X12_refuses se_X12_refuses (c_X12_refuses l G Γ H0 hB.1 hR.1 hU a0 h0 (-1) (by decide) (by decide)) rfl rfl ⟨Nat.le_of_ble_eq_true rfl, Nat.le_of_ble_eq_true rfl⟩ hB.1 h0 ro_46 rfl rfl hl.1 rfl (Nat.le_of_ble_eq_true rfl) gX12_terms_0.2.2.2.2.2.2.1 ⟨Nat.le_refl _, Nat.le_refl _⟩) hB.2.1 (fun v10 H10 locs hp hz hS => ?_)
    have hRD := hR
    obtain ⟨x9, rfl, q10_0, hI1, hf, hR, z10_0⟩ := hp
    have hR := th_RN_c hR hRD hI1 h0 hf (by decide)
    have hB := th_B_c hB hI1 hS hf (by decide)
    have fv_H10_33 : mo_f G H10 a0 33 = mo_f G H0 a0 33 := mo_f_F hf h0 (by decide) (by decide)
    have vv_H10_2 : mo_v G H10 a0 2 = mo_v G H0 a0 2 := mo_v_F (r := 48) hB.1 hf h0 rfl ro_48 (by decide) (by decide)
    have vv_H10_3 : mo_v G H10 a0 3 = mo_v G H0 a0 3 := mo_v_F (r := 49) hB.1 hf h0 rfl ro_49 (by decide) (by decide)
    have vv_H10_4 : mo_v G H10 a0 4 = mo_v G H0 a0 4 := mo_v_F (r := 50) hB.1 hf h0 rfl ro_50 (by decide) (by decide)
    have vv_H10_31 : mo_v G H10 a0 31 = mo_v G H0 a0 31 := mo_v_F (r := 61) hB.1 hf h0 rfl ro_61 (by decide) (by decide)
    have w10_0 := tk_m1
    have zf10 := z10_0
    rw [tk_m1] at zf10
    replace hF := hF.trans (dv_bn2 (zf10))
    refine W.eq (g2 := F0 m 13 ls [.int x9]) rfl ?_
    exact th_iret hC hH hr hlocks rfl hB.2.1 ⟨_, rfl, hB.1, hB.2.2, hR, (hF0.symm.trans hF)⟩ gX12_terms_0.2.2.2.2.2.2.2

set_option maxHeartbeats 4000000 in
set_option maxRecDepth 100000 in
theorem c_X12_row (l : Launch) (G : th_G) (Γ : th_Ga) (H0 : Heap) (hI : th_I G Γ H0) (hU : dv_U Γ) (a0 : Nat) (h0 : Γ a0 = (46, 0)) (hR : th_RN a0 G Γ H0) : Met l yX12_row (.code yX12_row cX12_row 5 (some FieldType.int) :: th_tb) ({ frames := 3, cells := 0, slots := 0, locals := 64 } : Room) (th_P [.ref a0] G H0) (th_Q (fun (v : Option Value) (H1 : Heap) => ∃ r : Int32, v = some (.int r) ∧ th_I G Γ H1 ∧ th_F G Γ [(47, 0), (46, 0), (48, 0), (46, 33), (46, 6), (46, 13)] H0 H1 ∧ th_RN a0 G Γ H1 ∧ (f_X12_row (dv G Γ H0) (a0 : Int) = (dv G Γ H1, r.toInt))) G) 0 0 (fun q => G.1.2.2 ≤ q) := by
  refine th_met RX12 (by decide) rfl (Nat.le_of_ble_eq_true rfl) ?_
  intro p e s m below meth c hC hH hr hlocks hnm ls hl
  have hx := hC.1
  have hb := hC.2.1
  have hB : th_B G Γ Γ [(47, 0), (46, 0), (48, 0), (46, 33), (46, 6), (46, 13)] H0 H0 [] := ⟨hI, va_S.rf, th_F_rf⟩
  have hl : lv_has ls 5 [(0, .ref a0)] := hl
  obtain ⟨F, hF0⟩ : ∃ F, F = f_X12_row (dv G Γ H0) ((a0 : Int)) := ⟨_, rfl⟩
  have hF := hF0.trans (f_X12_row.eq_1 (dv G Γ H0) ((a0 : Int)))
  refine lv_aload_n hx hb gX12_row_0.1 rfl (lv_at hl 0 rfl) ?_
  refine th_getI (j := 13) hC cf_X12 hB.1 h0 ro_46 rfl rfl kf_X12_169 gX12_row_0.2.1 (fun x1 mx1 lx1 ux1 => ?_)
  replace hF := hF.trans (dv_bn (dv_getI h0 ro_46 (j := 13) rfl mx1 (by decide)))
  refine lv_istore_n (lv' := [(1, .int x1), (0, .ref a0)]) hx hb gX12_row_0.2.2.1 rfl hl (by decide) rfl (fun ls hl => ?_)
  refine lv_aload_n hx hb gX12_row_0.2.2.2.1 rfl (lv_at hl 1 rfl) ?_
  refine lv_iconst (v := 0) hx hb gX12_row_0.2.2.2.2.1 (by decide) ?_
  refine th_put hC cf_X12 hB h0 (Or.inl h0) ro_46 rfl (j := 13) rfl (th_sI (by decide) (by decide)) (by decide) rfl rfl rfl kf_X12_169 gX12_row_0.2.2.2.2.2.1 (fun H7 locs hB hf hst7 => ?_)
  have hR := th_RN_F hB.1 hR h0 hf (th_T_s h0 ro_46 hst7) (by decide)
  have fv_H7_33 : mo_f G H7 a0 33 = mo_f G H0 a0 33 := mo_f_F hf h0 (by decide) (by decide)
  have vv_H7_2 : mo_v G H7 a0 2 = mo_v G H0 a0 2 := mo_v_F (r := 48) hB.1 hf h0 rfl ro_48 (by decide) (by decide)
  have vv_H7_3 : mo_v G H7 a0 3 = mo_v G H0 a0 3 := mo_v_F (r := 49) hB.1 hf h0 rfl ro_49 (by decide) (by decide)
  have vv_H7_4 : mo_v G H7 a0 4 = mo_v G H0 a0 4 := mo_v_F (r := 50) hB.1 hf h0 rfl ro_50 (by decide) (by decide)
  have vv_H7_31 : mo_v G H7 a0 31 = mo_v G H0 a0 31 := mo_v_F (r := 61) hB.1 hf h0 rfl ro_61 (by decide) (by decide)
  replace hF := hF.trans (dv_bn (dv_putI hB.1 h0 ro_46 (j := 13) rfl (th_apart hC cf_X12) hst7 tk_0 (by decide)))
  refine lv_iload_n hx hb gX12_row_0.2.2.2.2.2.2.1 rfl (lv_at hl 0 rfl) ?_
  refine tr_if_ne (tgt := 21) hx hb gX12_row_0.2.2.2.2.2.2.2 (by decide) (Eq.refl _) (fun c11 => ?_) (fun c11 => ?_)
  · replace hF := hF.trans (if_pos c11)
    refine lv_iconst (v := 0) hx hb gX12_row_1.2.2.2.2.1 (by decide) ?_
    have hR := th_NZ hR
    refine lv_istore_n (lv' := [(2, .int 0), (1, .int x1), (0, .ref a0)]) hx hb gX12_row_1.2.2.2.2.2.1 rfl hl (by decide) rfl (fun ls hl => ?_)
    refine lv_aload_n hx hb gX12_row_1.2.2.2.2.2.2.1 rfl (lv_at hl 2 rfl) ?_
    refine lv_iload_n hx hb gX12_row_1.2.2.2.2.2.2.2 rfl (lv_at hl 1 rfl) ?_
    refine lv_iconst (v := 3) hx hb gX12_row_2.1 (by decide) ?_
    refine tr_irem hx hb gX12_row_2.2.1 (Eq.refl _) tk_3 (by omega) (by omega) (fun x2 ex2 => ?_)
    replace hF := hF.trans (dv_bn (ex2.symm))
    have jn35 : ∀ (locs : List Loc) (ls : Array Slot) (s35_1 : Int32), th_B G Γ Γ [(47, 0), (46, 0), (48, 0), (46, 33), (46, 6), (46, 13)] H0 H7 locs → lv_has ls 5 [(2, .int 0), (1, .int x1), (0, .ref a0)] → F = f_X12_row_35 (dv G Γ H7) (x1.toInt) ((a0 : Int)) (s35_1.toInt) → 0 ≤ s35_1.toInt → s35_1.toInt ≤ 1 → W p l e ({ frames := 3, cells := 0, slots := 0, locals := 64 } : Room) s m ([.ref a0] : List Value).toArray below meth c H7 locs 0 0 (MQ below (th_Q (fun (v : Option Value) (H1 : Heap) => ∃ r : Int32, v = some (.int r) ∧ th_I G Γ H1 ∧ th_F G Γ [(47, 0), (46, 0), (48, 0), (46, 33), (46, 6), (46, 13)] H0 H1 ∧ th_RN a0 G Γ H1 ∧ (f_X12_row (dv G Γ H0) (a0 : Int) = (dv G Γ H1, r.toInt))) G) ([.ref a0] : List Value).toArray s 0 0 (fun q => G.1.2.2 ≤ q)) (F0 m 35 ls [.int s35_1, .ref a0]) := by
      intro locs ls s35_1 hB hl hF g35_0 g35_1
      have ls35_1 := ti_lo s35_1; have us35_1 := ti_hi s35_1
      replace hF := hF.trans (f_X12_row_35.eq_1 (dv G Γ H7) (x1.toInt) ((a0 : Int)) (s35_1.toInt))
      refine th_put hC cf_X12 hB h0 (Or.inl h0) ro_46 rfl (j := 6) rfl th_sIa (by decide) rfl rfl rfl kf_X12_172 gX12_row_2.2.2.2.2.2.2.1 (fun H35 locs hB hf hst35 => ?_)
      have hR := th_RZ_F hB.1 hR h0 hf (th_T_s h0 ro_46 hst35) (by decide)
      have fv_H35_33 : mo_f G H35 a0 33 = mo_f G H7 a0 33 := mo_f_F hf h0 (by decide) (by decide)
      have vv_H35_2 : mo_v G H35 a0 2 = mo_v G H7 a0 2 := mo_v_F (r := 48) hB.1 hf h0 rfl ro_48 (by decide) (by decide)
      have vv_H35_3 : mo_v G H35 a0 3 = mo_v G H7 a0 3 := mo_v_F (r := 49) hB.1 hf h0 rfl ro_49 (by decide) (by decide)
      have vv_H35_4 : mo_v G H35 a0 4 = mo_v G H7 a0 4 := mo_v_F (r := 50) hB.1 hf h0 rfl ro_50 (by decide) (by decide)
      have vv_H35_31 : mo_v G H35 a0 31 = mo_v G H7 a0 31 := mo_v_F (r := 61) hB.1 hf h0 rfl ro_61 (by decide) (by decide)
      replace hF := hF.trans (dv_bn (dv_putI hB.1 h0 ro_46 (j := 6) rfl (th_apart hC cf_X12) hst35 (Eq.refl _) (by decide)))
      have mm3 := hst35.2.1
      refine lv_iconst (v := 0) hx hb gX12_row_2.2.2.2.2.2.2.2 (by decide) ?_
      refine lv_istore_n (lv' := [(3, .int 0), (2, .int 0), (1, .int x1), (0, .ref a0)]) hx hb gX12_row_3.1 rfl hl (by decide) rfl (fun ls hl => ?_)
      have lp40 : ∀ (n40 : Nat) (H40 : Heap) (locs : List Loc) (ls : Array Slot) (j40_2 : Int32) (j40_3 : Int32), th_B G Γ Γ [(47, 0), (46, 0), (48, 0), (46, 33), (46, 6), (46, 13)] H0 H40 locs → th_RZ a0 G Γ H40 → lv_has ls 5 [(1, .int x1), (0, .ref a0), (2, .int j40_2), (3, .int j40_3)] → F = dv_lp f_X12_row_40b (dv G Γ H40, x1.toInt, (a0 : Int), j40_2.toInt, j40_3.toInt) → 0 ≤ j40_3.toInt → j40_3.toInt ≤ 400 → (2147483648 : Int) - j40_3.toInt ≤ (n40 : Int) → W p l e ({ frames := 3, cells := 0, slots := 0, locals := 64 } : Room) s m ([.ref a0] : List Value).toArray below meth c H40 locs 0 0 (MQ below (th_Q (fun (v : Option Value) (H1 : Heap) => ∃ r : Int32, v = some (.int r) ∧ th_I G Γ H1 ∧ th_F G Γ [(47, 0), (46, 0), (48, 0), (46, 33), (46, 6), (46, 13)] H0 H1 ∧ th_RN a0 G Γ H1 ∧ (f_X12_row (dv G Γ H0) (a0 : Int) = (dv G Γ H1, r.toInt))) G) ([.ref a0] : List Value).toArray s 0 0 (fun q => G.1.2.2 ≤ q)) (F0 m 40 ls []) := by
        intro n40
        induction n40 with
        | zero => intro H40 locs ls j40_2 j40_3 hB hR hl hF g40_0 g40_1 hm40; exact absurd hm40 (by have := ti_hi j40_3; omega)
        | succ n40 ih40 =>
          intro H40 locs ls j40_2 j40_3 hB hR hl hF g40_0 g40_1 hm40
          have lj40_2 := ti_lo j40_2; have uj40_2 := ti_hi j40_2
          have lj40_3 := ti_lo j40_3; have uj40_3 := ti_hi j40_3
          have vw_H40_3 : mo_v G H40 a0 3 = mo_v G H0 a0 3 := mo_v_F (r := 49) hB.1 hB.2.2 h0 rfl ro_49 (by decide) (by decide)
          have vw_H40_4 : mo_v G H40 a0 4 = mo_v G H0 a0 4 := mo_v_F (r := 50) hB.1 hB.2.2 h0 rfl ro_50 (by decide) (by decide)
          have vw_H40_31 : mo_v G H40 a0 31 = mo_v G H0 a0 31 := mo_v_F (r := 61) hB.1 hB.2.2 h0 rfl ro_61 (by decide) (by decide)
          have hm40 : (2147483648 : Int) - j40_3.toInt ≤ (n40 : Int) + 1 := by omega
          replace hF := hF.trans (dv_lp_eq)
          replace hF := hF.trans (congrArg (dv_k f_X12_row_40b) (f_X12_row_40c.eq_1 (dv G Γ H40) (x1.toInt) ((a0 : Int)) (j40_2.toInt) (j40_3.toInt)))
          refine lv_iload_n hx hb gX12_row_3.2.1 rfl (lv_at hl 3 rfl) ?_
          refine lv_iconst (v := 3) hx hb gX12_row_3.2.2.1 (by decide) ?_
          refine tr_iadd hx hb gX12_row_3.2.2.2.1 (Eq.refl _) tk_3 (by omega) (by omega) (fun x4 ex4 => ?_)
          replace hF := hF.trans (congrArg (dv_k f_X12_row_40b) (dv_bn (ex4.symm)))
          refine lv_iload_n hx hb gX12_row_3.2.2.2.2.1 rfl (lv_at hl 0 rfl) ?_
          refine tr_icmp_gt (tgt := 160) hx hb gX12_row_3.2.2.2.2.2.1 (by decide) (Eq.refl _) (Eq.refl _) (fun c44 => ?_) (fun c44 => ?_)
          · replace hF := hF.trans (congrArg (dv_k f_X12_row_40b) (if_pos c44))
            refine lv_aload_n hx hb gX12_row_12.1 rfl (lv_at hl 1 rfl) ?_
            refine lv_iload_n hx hb gX12_row_12.2.1 rfl (lv_at hl 2 rfl) ?_
            refine th_call (th_runV (As := [.int j40_2]) (rest := []) hC mf_X12_settled km_X12_112 im_X12_settled se_X12_settled (c_X12_settled l G Γ H40 hB.1 hR.1 hU a0 h0 j40_2) rfl rfl ⟨Nat.le_of_ble_eq_true rfl, Nat.le_of_ble_eq_true rfl⟩ hB.1 h0 ro_46 rfl rfl hl.1 rfl (Nat.le_of_ble_eq_true rfl) gX12_row_12.2.2.1 ⟨Nat.le_refl _, Nat.le_refl _⟩) hB.2.1 (fun v162 H162 locs hp hz hS => ?_)
            have hRD := hR
            obtain ⟨x5, rfl, q162_0, hI1, hf, hR, z162_0, z162_1⟩ := hp
            have hR := th_RZ_c hR hRD hI1 h0 hf (by decide)
            have hB := th_B_c hB hI1 hS hf (by decide)
            have vv_H162_2 : mo_v G H162 a0 2 = mo_v G H40 a0 2 := mo_v_F (r := 48) hB.1 hf h0 rfl ro_48 (by decide) (by decide)
            have vv_H162_3 : mo_v G H162 a0 3 = mo_v G H40 a0 3 := mo_v_F (r := 49) hB.1 hf h0 rfl ro_49 (by decide) (by decide)
            have vv_H162_4 : mo_v G H162 a0 4 = mo_v G H40 a0 4 := mo_v_F (r := 50) hB.1 hf h0 rfl ro_50 (by decide) (by decide)
            have vv_H162_31 : mo_v G H162 a0 31 = mo_v G H40 a0 31 := mo_v_F (r := 61) hB.1 hf h0 rfl ro_61 (by decide) (by decide)
            replace hF := hF.trans (congrArg (dv_k f_X12_row_40b) (dv_bn2 (z162_1)))
            refine W.eq (g2 := F0 m 165 ls [.int x5]) rfl ?_
            have hR := th_ZN hR z162_0
            replace hF := hF.trans (dv_kr)
            exact th_iret hC hH hr hlocks rfl hB.2.1 ⟨_, rfl, hB.1, hB.2.2, hR, (hF0.symm.trans hF)⟩ gX12_row_12.2.2.2
          · replace hF := hF.trans (congrArg (dv_k f_X12_row_40b) (if_neg (Int.not_lt.mpr c44)))
            refine lv_aload_n hx hb gX12_row_3.2.2.2.2.2.2.1 rfl (lv_at hl 1 rfl) ?_
            refine th_call (th_runV (As := []) (rest := []) hC mf_X12_many km_X12_115 im_X12_many se_X12_many (c_X12_many l G Γ H40 hB.1 hU a0 h0) rfl rfl ⟨Nat.le_of_ble_eq_true rfl, Nat.le_of_ble_eq_true rfl⟩ hB.1 h0 ro_46 rfl rfl hl.1 rfl (Nat.le_of_ble_eq_true rfl) gX12_row_3.2.2.2.2.2.2.2 ⟨Nat.le_refl _, Nat.le_refl _⟩) hB.2.1 (fun v48 H48 locs hp hz hS => ?_)
            obtain ⟨x6, rfl, lx6, ux6, q48_0, q48_1, rfl⟩ := hp
            have hB := th_B_s hB hS
            replace hF := hF.trans (congrArg (dv_k f_X12_row_40b) (dv_bn2 (q48_1)))
            refine W.eq (g2 := F0 m 51 ls [.int x6]) rfl ?_
            refine lv_bipush (v := 9) hx hb gX12_row_4.1 (by decide) ?_
            refine tr_icmp_ge (tgt := 88) hx hb gX12_row_4.2.1 (by decide) (Eq.refl _) tk_9 (fun c53 => ?_) (fun c53 => ?_)
            · replace hF := hF.trans (congrArg (dv_k f_X12_row_40b) (if_pos c53))
              refine lv_iconst (v := 0) hx hb gX12_row_6.2.2.2.2.2.2.1 (by decide) ?_
              refine lv_istore (lv' := [(4, .int 0), (1, .int x1), (0, .ref a0), (2, .int j40_2), (3, .int j40_3)]) hx hb gX12_row_6.2.2.2.2.2.2.2 hl (by decide) rfl (fun ls hl => ?_)
              refine lv_iload hx hb gX12_row_7.1 (lv_at hl 0 rfl) ?_
              have jn122 : ∀ (H122 : Heap) (locs : List Loc) (ls : Array Slot) , th_B G Γ Γ [(47, 0), (46, 0), (48, 0), (46, 33), (46, 6), (46, 13)] H0 H122 locs → th_RZ a0 G Γ H122 → lv_has ls 5 [(4, .int 0), (1, .int x1), (0, .ref a0), (2, .int j40_2), (3, .int j40_3)] → F = dv_k f_X12_row_40b (f_X12_row_122 (dv G Γ H122) (x1.toInt) ((a0 : Int)) (j40_2.toInt) (j40_3.toInt)) → W p l e ({ frames := 3, cells := 0, slots := 0, locals := 64 } : Room) s m ([.ref a0] : List Value).toArray below meth c H122 locs 0 0 (MQ below (th_Q (fun (v : Option Value) (H1 : Heap) => ∃ r : Int32, v = some (.int r) ∧ th_I G Γ H1 ∧ th_F G Γ [(47, 0), (46, 0), (48, 0), (46, 33), (46, 6), (46, 13)] H0 H1 ∧ th_RN a0 G Γ H1 ∧ (f_X12_row (dv G Γ H0) (a0 : Int) = (dv G Γ H1, r.toInt))) G) ([.ref a0] : List Value).toArray s 0 0 (fun q => G.1.2.2 ≤ q)) (F0 m 122 ls []) := by
                intro H122 locs ls hB hR hl hF
                have vw_H122_3 : mo_v G H122 a0 3 = mo_v G H0 a0 3 := mo_v_F (r := 49) hB.1 hB.2.2 h0 rfl ro_49 (by decide) (by decide)
                have vw_H122_4 : mo_v G H122 a0 4 = mo_v G H0 a0 4 := mo_v_F (r := 50) hB.1 hB.2.2 h0 rfl ro_50 (by decide) (by decide)
                have vw_H122_31 : mo_v G H122 a0 31 = mo_v G H0 a0 31 := mo_v_F (r := 61) hB.1 hB.2.2 h0 rfl ro_61 (by decide) (by decide)
                replace hF := hF.trans (congrArg (dv_k f_X12_row_40b) (f_X12_row_122.eq_1 (dv G Γ H122) (x1.toInt) ((a0 : Int)) (j40_2.toInt) (j40_3.toInt)))
                refine lv_iload_n hx hb gX12_row_9.2.2.2.2.1 rfl (lv_at hl 3 rfl) ?_
                refine lv_iload hx hb gX12_row_9.2.2.2.2.2.1 (lv_at hl 0 rfl) ?_
                refine tr_if_eq (tgt := 132) hx hb gX12_row_9.2.2.2.2.2.2.1 (by decide) tk_0 (fun c125 => ?_) (fun c125 => ?_)
                · refine lv_iconst (v := 0) hx hb gX12_row_10.2.1 (by decide) ?_
                  refine tr_iadd hx hb gX12_row_10.2.2.1 (Eq.refl _) tk_0 (by omega) (by omega) (fun x7 ex7 => ?_)
                  replace hF := hF.trans (congrArg (dv_k f_X12_row_40b) (dv_bn (ex7.symm)))
                  refine lv_istore_n (lv' := [(2, .int x7), (4, .int 0), (1, .int x1), (0, .ref a0), (3, .int j40_3)]) hx hb gX12_row_10.2.2.2.1 rfl hl (by decide) rfl (fun ls hl => ?_)
                  refine lv_aload_n hx hb gX12_row_10.2.2.2.2.1 rfl (lv_at hl 3 rfl) ?_
                  refine lv_dup hx hb gX12_row_10.2.2.2.2.2.1 rfl ?_
                  refine th_getI (j := 6) hC cf_X12 hB.1 h0 ro_46 rfl rfl kf_X12_172 gX12_row_10.2.2.2.2.2.2.1 (fun x8 mx8 lx8 ux8 => ?_)
                  replace hF := hF.trans (congrArg (dv_k f_X12_row_40b) (dv_bn (dv_getI h0 ro_46 (j := 6) rfl mx8 (by decide))))
                  refine lv_iload hx hb gX12_row_10.2.2.2.2.2.2.2 (lv_at hl 1 rfl) ?_
                  refine tr_if_eq (tgt := 149) hx hb gX12_row_11.1 (by decide) tk_0 (fun c142 => ?_) (fun c142 => ?_)
                  · refine lv_iconst (v := 1) hx hb gX12_row_11.2.2.2.1 (by decide) ?_
                    refine lv_iadd hx hb gX12_row_11.2.2.2.2.1 ?_
                    refine lv_topi (fun x9 ex9 => ?_)
                    have lx9 := ti_lo x9; have ux9 := ti_hi x9
                    replace hF := hF.trans (congrArg (dv_k f_X12_row_40b) (dv_bn (dv_add_e (Eq.refl _) tk_1 ex9)))
                    refine th_put hC cf_X12 hB h0 (Or.inl h0) ro_46 rfl (j := 6) rfl th_sIa (by decide) rfl rfl rfl kf_X12_172 gX12_row_11.2.2.2.2.2.1 (fun H151 locs hB hf hst151 => ?_)
                    have hR := th_RZ_F hB.1 hR h0 hf (th_T_s h0 ro_46 hst151) (by decide)
                    have fv_H151_33 : mo_f G H151 a0 33 = mo_f G H122 a0 33 := mo_f_F hf h0 (by decide) (by decide)
                    have vv_H151_2 : mo_v G H151 a0 2 = mo_v G H122 a0 2 := mo_v_F (r := 48) hB.1 hf h0 rfl ro_48 (by decide) (by decide)
                    have vv_H151_3 : mo_v G H151 a0 3 = mo_v G H122 a0 3 := mo_v_F (r := 49) hB.1 hf h0 rfl ro_49 (by decide) (by decide)
                    have vv_H151_4 : mo_v G H151 a0 4 = mo_v G H122 a0 4 := mo_v_F (r := 50) hB.1 hf h0 rfl ro_50 (by decide) (by decide)
                    have vv_H151_31 : mo_v G H151 a0 31 = mo_v G H122 a0 31 := mo_v_F (r := 61) hB.1 hf h0 rfl ro_61 (by decide) (by decide)
                    replace hF := hF.trans (congrArg (dv_k f_X12_row_40b) (dv_bn (dv_putI hB.1 h0 ro_46 (j := 6) rfl (th_apart hC cf_X12) hst151 (Eq.refl _) (by decide))))
                    have mm10 := hst151.2.1
                    refine tr_iinc (fun x11 => [(3, .int x11), (2, .int x7), (4, .int 0), (1, .int x1), (0, .ref a0)]) hx hb gX12_row_11.2.2.2.2.2.2.1 hl (k := 4) rfl (Eq.refl _) tk_3 (by omega) (by omega) (by decide) (fun _ => rfl) (fun x11 ls ex11 hl => ?_)
                    replace hF := hF.trans (congrArg (dv_k f_X12_row_40b) (dv_bn (ex11.symm)))
                    refine lv_goto (tgt := 40) hx hb gX12_row_11.2.2.2.2.2.2.2 (by decide) ?_
                    replace hF := hF.trans (dv_kl)
                    exact ih40 H151 locs ls x7 x11 hB hR (lv_sub hl [3, 4, 1, 0] rfl) hF (by omega) (by omega) (by omega)
                  · exfalso; omega
                · exfalso; omega
              refine tr_if_eq (tgt := 122) hx hb gX12_row_7.2.1 (by decide) tk_0 (fun c93 => ?_) (fun c93 => ?_)
              · exact jn122 H40 locs ls hB hR (lv_sub hl [0, 1, 2, 3, 4] rfl) hF
              · exfalso; omega
            · replace hF := hF.trans (congrArg (dv_k f_X12_row_40b) (if_neg (Int.not_le.mpr c53)))
              refine lv_aload_n hx hb gX12_row_4.2.2.1 rfl (lv_at hl 1 rfl) ?_
              refine th_getO (j := 11) (r2 := 53) hC cf_X12 hB.1 h0 ro_46 rfl rfl kf_X12_45 gX12_row_4.2.2.2.1 (fun b12 mb12 hb12 => ?_)
              have sb12 := (th_F_o hB.2.2 h0 ro_46 (j := 11) (by decide) (by decide)).symm.trans mb12
              refine lv_iload_n hx hb gX12_row_4.2.2.2.2.1 rfl (lv_at hl 3 rfl) ?_
              refine th_baldF hC hB.1 hb12 ro_53 rfl (Eq.refl _) (by omega) (by omega) rfl gX12_row_4.2.2.2.2.2.1 (fun x13 mx13 lx13 ux13 => ?_)
              replace hF := hF.trans (congrArg (dv_k f_X12_row_40b) (dv_bn (dv_aldI hB.1 hU hb12 ow_53 (z := j40_3.toInt) mx13 (by omega))))
              refine lv_aload_n hx hb gX12_row_4.2.2.2.2.2.2.1 rfl (lv_at hl 1 rfl) ?_
              refine th_getK hC cf_X12 hB.1 h0 ro_46 rfl (j := 11) (by decide) mb12 kf_X12_45 gX12_row_4.2.2.2.2.2.2.2 ?_
              refine lv_iload_n hx hb gX12_row_5.1 rfl (lv_at hl 3 rfl) ?_
              refine lv_iconst (v := 1) hx hb gX12_row_5.2.1 (by decide) ?_
              refine tr_iadd hx hb gX12_row_5.2.2.1 (Eq.refl _) tk_1 (by omega) (by omega) (fun x14 ex14 => ?_)
              replace hF := hF.trans (congrArg (dv_k f_X12_row_40b) (dv_bn (ex14.symm)))
              refine th_baldF hC hB.1 hb12 ro_53 rfl (Eq.refl _) (by omega) (by omega) rfl gX12_row_5.2.2.2.1 (fun x15 mx15 lx15 ux15 => ?_)
              replace hF := hF.trans (congrArg (dv_k f_X12_row_40b) (dv_bn (dv_aldI hB.1 hU hb12 ow_53 (z := x14.toInt) mx15 (by omega))))
              refine lv_aload_n hx hb gX12_row_5.2.2.2.2.1 rfl (lv_at hl 1 rfl) ?_
              refine th_getK hC cf_X12 hB.1 h0 ro_46 rfl (j := 11) (by decide) mb12 kf_X12_45 gX12_row_5.2.2.2.2.2.1 ?_
              refine lv_iload_n hx hb gX12_row_5.2.2.2.2.2.2.1 rfl (lv_at hl 3 rfl) ?_
              refine lv_iconst (v := 2) hx hb gX12_row_5.2.2.2.2.2.2.2 (by decide) ?_
              refine tr_iadd hx hb gX12_row_6.1 (Eq.refl _) tk_2 (by omega) (by omega) (fun x16 ex16 => ?_)
              replace hF := hF.trans (congrArg (dv_k f_X12_row_40b) (dv_bn (ex16.symm)))
              refine th_baldF hC hB.1 hb12 ro_53 rfl (Eq.refl _) (by omega) (by omega) rfl gX12_row_6.2.1 (fun x17 mx17 lx17 ux17 => ?_)
              replace hF := hF.trans (congrArg (dv_k f_X12_row_40b) (dv_bn (dv_aldI hB.1 hU hb12 ow_53 (z := x16.toInt) mx17 (by omega))))
              refine th_call (th_runS (As := [.int x13, .int x15, .int x17]) (rest := []) hC mf_X12_canBe km_X12_127 st_X12_canBe (c_X12_canBe l G Γ H40 hB.1 hU x13 x15 x17) rfl rfl ⟨Nat.le_of_ble_eq_true rfl, Nat.le_of_ble_eq_true rfl⟩ rfl hl.1 rfl (Nat.le_of_ble_eq_true rfl) gX12_row_6.2.2.1 ⟨Nat.le_refl _, Nat.le_refl _⟩) hB.2.1 (fun v78 H78 locs hp hz hS => ?_)
              obtain ⟨x18, rfl, lx18, ux18, q78_0, q78_1, rfl⟩ := hp
              have hB := th_B_s hB hS
              replace hF := hF.trans (congrArg (dv_k f_X12_row_40b) (dv_bn2 (q78_1)))
              refine W.eq (g2 := F0 m 81 ls [.int x18]) rfl ?_
              refine tr_if_eq (tgt := 88) hx hb gX12_row_6.2.2.2.1 (by decide) (Eq.refl _) (fun c81 => ?_) (fun c81 => ?_)
              · replace hF := hF.trans (congrArg (dv_k f_X12_row_40b) (if_pos c81))
                refine lv_iconst (v := 0) hx hb gX12_row_6.2.2.2.2.2.2.1 (by decide) ?_
                refine lv_istore (lv' := [(4, .int 0), (1, .int x1), (0, .ref a0), (2, .int j40_2), (3, .int j40_3)]) hx hb gX12_row_6.2.2.2.2.2.2.2 hl (by decide) rfl (fun ls hl => ?_)
                refine lv_iload hx hb gX12_row_7.1 (lv_at hl 0 rfl) ?_
                have jn122 : ∀ (H122 : Heap) (locs : List Loc) (ls : Array Slot) , th_B G Γ Γ [(47, 0), (46, 0), (48, 0), (46, 33), (46, 6), (46, 13)] H0 H122 locs → th_RZ a0 G Γ H122 → lv_has ls 5 [(4, .int 0), (1, .int x1), (0, .ref a0), (2, .int j40_2), (3, .int j40_3)] → F = dv_k f_X12_row_40b (f_X12_row_122x2 (dv G Γ H122) (x1.toInt) ((a0 : Int)) (j40_2.toInt) (j40_3.toInt)) → W p l e ({ frames := 3, cells := 0, slots := 0, locals := 64 } : Room) s m ([.ref a0] : List Value).toArray below meth c H122 locs 0 0 (MQ below (th_Q (fun (v : Option Value) (H1 : Heap) => ∃ r : Int32, v = some (.int r) ∧ th_I G Γ H1 ∧ th_F G Γ [(47, 0), (46, 0), (48, 0), (46, 33), (46, 6), (46, 13)] H0 H1 ∧ th_RN a0 G Γ H1 ∧ (f_X12_row (dv G Γ H0) (a0 : Int) = (dv G Γ H1, r.toInt))) G) ([.ref a0] : List Value).toArray s 0 0 (fun q => G.1.2.2 ≤ q)) (F0 m 122 ls []) := by
                  intro H122 locs ls hB hR hl hF
                  have mm19 := (th_F_o hB.2.2 h0 ro_46 (j := 11) (by decide) (by decide)).trans sb12
                  have vw_H122_3 : mo_v G H122 a0 3 = mo_v G H0 a0 3 := mo_v_F (r := 49) hB.1 hB.2.2 h0 rfl ro_49 (by decide) (by decide)
                  have vw_H122_4 : mo_v G H122 a0 4 = mo_v G H0 a0 4 := mo_v_F (r := 50) hB.1 hB.2.2 h0 rfl ro_50 (by decide) (by decide)
                  have vw_H122_31 : mo_v G H122 a0 31 = mo_v G H0 a0 31 := mo_v_F (r := 61) hB.1 hB.2.2 h0 rfl ro_61 (by decide) (by decide)
                  replace hF := hF.trans (congrArg (dv_k f_X12_row_40b) (f_X12_row_122x2.eq_1 (dv G Γ H122) (x1.toInt) ((a0 : Int)) (j40_2.toInt) (j40_3.toInt)))
                  refine lv_iload_n hx hb gX12_row_9.2.2.2.2.1 rfl (lv_at hl 3 rfl) ?_
                  refine lv_iload hx hb gX12_row_9.2.2.2.2.2.1 (lv_at hl 0 rfl) ?_
                  refine tr_if_eq (tgt := 132) hx hb gX12_row_9.2.2.2.2.2.2.1 (by decide) tk_0 (fun c125 => ?_) (fun c125 => ?_)
                  · refine lv_iconst (v := 0) hx hb gX12_row_10.2.1 (by decide) ?_
                    refine tr_iadd hx hb gX12_row_10.2.2.1 (Eq.refl _) tk_0 (by omega) (by omega) (fun x20 ex20 => ?_)
                    replace hF := hF.trans (congrArg (dv_k f_X12_row_40b) (dv_bn (ex20.symm)))
                    refine lv_istore_n (lv' := [(2, .int x20), (4, .int 0), (1, .int x1), (0, .ref a0), (3, .int j40_3)]) hx hb gX12_row_10.2.2.2.1 rfl hl (by decide) rfl (fun ls hl => ?_)
                    refine lv_aload_n hx hb gX12_row_10.2.2.2.2.1 rfl (lv_at hl 3 rfl) ?_
                    refine lv_dup hx hb gX12_row_10.2.2.2.2.2.1 rfl ?_
                    refine th_getI (j := 6) hC cf_X12 hB.1 h0 ro_46 rfl rfl kf_X12_172 gX12_row_10.2.2.2.2.2.2.1 (fun x21 mx21 lx21 ux21 => ?_)
                    replace hF := hF.trans (congrArg (dv_k f_X12_row_40b) (dv_bn (dv_getI h0 ro_46 (j := 6) rfl mx21 (by decide))))
                    refine lv_iload hx hb gX12_row_10.2.2.2.2.2.2.2 (lv_at hl 1 rfl) ?_
                    refine tr_if_eq (tgt := 149) hx hb gX12_row_11.1 (by decide) tk_0 (fun c142 => ?_) (fun c142 => ?_)
                    · refine lv_iconst (v := 1) hx hb gX12_row_11.2.2.2.1 (by decide) ?_
                      refine lv_iadd hx hb gX12_row_11.2.2.2.2.1 ?_
                      refine lv_topi (fun x22 ex22 => ?_)
                      have lx22 := ti_lo x22; have ux22 := ti_hi x22
                      replace hF := hF.trans (congrArg (dv_k f_X12_row_40b) (dv_bn (dv_add_e (Eq.refl _) tk_1 ex22)))
                      refine th_put hC cf_X12 hB h0 (Or.inl h0) ro_46 rfl (j := 6) rfl th_sIa (by decide) rfl rfl rfl kf_X12_172 gX12_row_11.2.2.2.2.2.1 (fun H151 locs hB hf hst151 => ?_)
                      have mm23 := (th_F_o hf h0 ro_46 (j := 11) (by decide) (by decide)).trans mm19
                      have hR := th_RZ_F hB.1 hR h0 hf (th_T_s h0 ro_46 hst151) (by decide)
                      have fv_H151_33 : mo_f G H151 a0 33 = mo_f G H122 a0 33 := mo_f_F hf h0 (by decide) (by decide)
                      have vv_H151_2 : mo_v G H151 a0 2 = mo_v G H122 a0 2 := mo_v_F (r := 48) hB.1 hf h0 rfl ro_48 (by decide) (by decide)
                      have vv_H151_3 : mo_v G H151 a0 3 = mo_v G H122 a0 3 := mo_v_F (r := 49) hB.1 hf h0 rfl ro_49 (by decide) (by decide)
                      have vv_H151_4 : mo_v G H151 a0 4 = mo_v G H122 a0 4 := mo_v_F (r := 50) hB.1 hf h0 rfl ro_50 (by decide) (by decide)
                      have vv_H151_31 : mo_v G H151 a0 31 = mo_v G H122 a0 31 := mo_v_F (r := 61) hB.1 hf h0 rfl ro_61 (by decide) (by decide)
                      replace hF := hF.trans (congrArg (dv_k f_X12_row_40b) (dv_bn (dv_putI hB.1 h0 ro_46 (j := 6) rfl (th_apart hC cf_X12) hst151 (Eq.refl _) (by decide))))
                      have mm24 := hst151.2.1
                      refine tr_iinc (fun x25 => [(3, .int x25), (2, .int x20), (4, .int 0), (1, .int x1), (0, .ref a0)]) hx hb gX12_row_11.2.2.2.2.2.2.1 hl (k := 4) rfl (Eq.refl _) tk_3 (by omega) (by omega) (by decide) (fun _ => rfl) (fun x25 ls ex25 hl => ?_)
                      replace hF := hF.trans (congrArg (dv_k f_X12_row_40b) (dv_bn (ex25.symm)))
                      refine lv_goto (tgt := 40) hx hb gX12_row_11.2.2.2.2.2.2.2 (by decide) ?_
                      replace hF := hF.trans (dv_kl)
                      exact ih40 H151 locs ls x20 x25 hB hR (lv_sub hl [3, 4, 1, 0] rfl) hF (by omega) (by omega) (by omega)
                    · exfalso; omega
                  · exfalso; omega
                refine tr_if_eq (tgt := 122) hx hb gX12_row_7.2.1 (by decide) tk_0 (fun c93 => ?_) (fun c93 => ?_)
                · exact jn122 H40 locs ls hB hR (lv_sub hl [0, 1, 2, 3, 4] rfl) hF
                · exfalso; omega
              · replace hF := hF.trans (congrArg (dv_k f_X12_row_40b) (if_neg c81))
                refine lv_iconst (v := 1) hx hb gX12_row_6.2.2.2.2.1 (by decide) ?_
                refine lv_goto (tgt := 89) hx hb gX12_row_6.2.2.2.2.2.1 (by decide) ?_
                refine lv_istore (lv' := [(4, .int 1), (1, .int x1), (0, .ref a0), (2, .int j40_2), (3, .int j40_3)]) hx hb gX12_row_6.2.2.2.2.2.2.2 hl (by decide) rfl (fun ls hl => ?_)
                refine lv_iload hx hb gX12_row_7.1 (lv_at hl 0 rfl) ?_
                have jn122 : ∀ (H122 : Heap) (locs : List Loc) (ls : Array Slot) , th_B G Γ Γ [(47, 0), (46, 0), (48, 0), (46, 33), (46, 6), (46, 13)] H0 H122 locs → th_RZ a0 G Γ H122 → lv_has ls 5 [(4, .int 1), (1, .int x1), (0, .ref a0), (2, .int j40_2), (3, .int j40_3)] → F = dv_k f_X12_row_40b (f_X12_row_122x3 (dv G Γ H122) (x1.toInt) ((a0 : Int)) (j40_2.toInt) (j40_3.toInt)) → W p l e ({ frames := 3, cells := 0, slots := 0, locals := 64 } : Room) s m ([.ref a0] : List Value).toArray below meth c H122 locs 0 0 (MQ below (th_Q (fun (v : Option Value) (H1 : Heap) => ∃ r : Int32, v = some (.int r) ∧ th_I G Γ H1 ∧ th_F G Γ [(47, 0), (46, 0), (48, 0), (46, 33), (46, 6), (46, 13)] H0 H1 ∧ th_RN a0 G Γ H1 ∧ (f_X12_row (dv G Γ H0) (a0 : Int) = (dv G Γ H1, r.toInt))) G) ([.ref a0] : List Value).toArray s 0 0 (fun q => G.1.2.2 ≤ q)) (F0 m 122 ls []) := by
                  intro H122 locs ls hB hR hl hF
                  have mm26 := (th_F_o hB.2.2 h0 ro_46 (j := 11) (by decide) (by decide)).trans sb12
                  have vw_H122_3 : mo_v G H122 a0 3 = mo_v G H0 a0 3 := mo_v_F (r := 49) hB.1 hB.2.2 h0 rfl ro_49 (by decide) (by decide)
                  have vw_H122_4 : mo_v G H122 a0 4 = mo_v G H0 a0 4 := mo_v_F (r := 50) hB.1 hB.2.2 h0 rfl ro_50 (by decide) (by decide)
                  have vw_H122_31 : mo_v G H122 a0 31 = mo_v G H0 a0 31 := mo_v_F (r := 61) hB.1 hB.2.2 h0 rfl ro_61 (by decide) (by decide)
                  replace hF := hF.trans (congrArg (dv_k f_X12_row_40b) (f_X12_row_122x3.eq_1 (dv G Γ H122) (x1.toInt) ((a0 : Int)) (j40_2.toInt) (j40_3.toInt)))
                  refine lv_iload_n hx hb gX12_row_9.2.2.2.2.1 rfl (lv_at hl 3 rfl) ?_
                  refine lv_iload hx hb gX12_row_9.2.2.2.2.2.1 (lv_at hl 0 rfl) ?_
                  refine tr_if_eq (tgt := 132) hx hb gX12_row_9.2.2.2.2.2.2.1 (by decide) tk_1 (fun c125 => ?_) (fun c125 => ?_)
                  · exfalso; omega
                  · refine lv_iconst (v := 1) hx hb gX12_row_9.2.2.2.2.2.2.2 (by decide) ?_
                    refine lv_goto (tgt := 133) hx hb gX12_row_10.1 (by decide) ?_
                    refine lv_iadd hx hb gX12_row_10.2.2.1 ?_
                    refine lv_topi (fun x27 ex27 => ?_)
                    have lx27 := ti_lo x27; have ux27 := ti_hi x27
                    replace hF := hF.trans (congrArg (dv_k f_X12_row_40b) (dv_bn (dv_add_e (Eq.refl _) tk_1 ex27)))
                    refine lv_istore_n (lv' := [(2, .int x27), (4, .int 1), (1, .int x1), (0, .ref a0), (3, .int j40_3)]) hx hb gX12_row_10.2.2.2.1 rfl hl (by decide) rfl (fun ls hl => ?_)
                    refine lv_aload_n hx hb gX12_row_10.2.2.2.2.1 rfl (lv_at hl 3 rfl) ?_
                    refine lv_dup hx hb gX12_row_10.2.2.2.2.2.1 rfl ?_
                    refine th_getI (j := 6) hC cf_X12 hB.1 h0 ro_46 rfl rfl kf_X12_172 gX12_row_10.2.2.2.2.2.2.1 (fun x28 mx28 lx28 ux28 => ?_)
                    replace hF := hF.trans (congrArg (dv_k f_X12_row_40b) (dv_bn (dv_getI h0 ro_46 (j := 6) rfl mx28 (by decide))))
                    refine lv_iload hx hb gX12_row_10.2.2.2.2.2.2.2 (lv_at hl 1 rfl) ?_
                    refine tr_if_eq (tgt := 149) hx hb gX12_row_11.1 (by decide) tk_1 (fun c142 => ?_) (fun c142 => ?_)
                    · exfalso; omega
                    · refine lv_iconst (v := 0) hx hb gX12_row_11.2.1 (by decide) ?_
                      refine lv_goto (tgt := 150) hx hb gX12_row_11.2.2.1 (by decide) ?_
                      refine tr_iadd hx hb gX12_row_11.2.2.2.2.1 (Eq.refl _) tk_0 (by omega) (by omega) (fun x29 ex29 => ?_)
                      replace hF := hF.trans (congrArg (dv_k f_X12_row_40b) (dv_bn (ex29.symm)))
                      refine th_put hC cf_X12 hB h0 (Or.inl h0) ro_46 rfl (j := 6) rfl th_sIa (by decide) rfl rfl rfl kf_X12_172 gX12_row_11.2.2.2.2.2.1 (fun H151 locs hB hf hst151 => ?_)
                      have mm30 := (th_F_o hf h0 ro_46 (j := 11) (by decide) (by decide)).trans mm26
                      have hR := th_RZ_F hB.1 hR h0 hf (th_T_s h0 ro_46 hst151) (by decide)
                      have fv_H151_33 : mo_f G H151 a0 33 = mo_f G H122 a0 33 := mo_f_F hf h0 (by decide) (by decide)
                      have vv_H151_2 : mo_v G H151 a0 2 = mo_v G H122 a0 2 := mo_v_F (r := 48) hB.1 hf h0 rfl ro_48 (by decide) (by decide)
                      have vv_H151_3 : mo_v G H151 a0 3 = mo_v G H122 a0 3 := mo_v_F (r := 49) hB.1 hf h0 rfl ro_49 (by decide) (by decide)
                      have vv_H151_4 : mo_v G H151 a0 4 = mo_v G H122 a0 4 := mo_v_F (r := 50) hB.1 hf h0 rfl ro_50 (by decide) (by decide)
                      have vv_H151_31 : mo_v G H151 a0 31 = mo_v G H122 a0 31 := mo_v_F (r := 61) hB.1 hf h0 rfl ro_61 (by decide) (by decide)
                      replace hF := hF.trans (congrArg (dv_k f_X12_row_40b) (dv_bn (dv_putI hB.1 h0 ro_46 (j := 6) rfl (th_apart hC cf_X12) hst151 (Eq.refl _) (by decide))))
                      have mm31 := hst151.2.1
                      refine tr_iinc (fun x32 => [(3, .int x32), (2, .int x27), (4, .int 1), (1, .int x1), (0, .ref a0)]) hx hb gX12_row_11.2.2.2.2.2.2.1 hl (k := 4) rfl (Eq.refl _) tk_3 (by omega) (by omega) (by decide) (fun _ => rfl) (fun x32 ls ex32 hl => ?_)
                      replace hF := hF.trans (congrArg (dv_k f_X12_row_40b) (dv_bn (ex32.symm)))
                      refine lv_goto (tgt := 40) hx hb gX12_row_11.2.2.2.2.2.2.2 (by decide) ?_
                      replace hF := hF.trans (dv_kl)
                      exact ih40 H151 locs ls x27 x32 hB hR (lv_sub hl [3, 4, 1, 0] rfl) hF (by omega) (by omega) (by omega)
                refine tr_if_eq (tgt := 122) hx hb gX12_row_7.2.1 (by decide) tk_1 (fun c93 => ?_) (fun c93 => ?_)
                · exfalso; omega
                · refine lv_aload_n hx hb gX12_row_7.2.2.1 rfl (lv_at hl 2 rfl) ?_
                  refine lv_aload_n hx hb gX12_row_7.2.2.2.1 rfl (lv_at hl 2 rfl) ?_
                  refine th_getK hC cf_X12 hB.1 h0 ro_46 rfl (j := 11) (by decide) mb12 kf_X12_45 gX12_row_7.2.2.2.2.1 ?_
                  refine lv_iload_n hx hb gX12_row_7.2.2.2.2.2.1 rfl (lv_at hl 4 rfl) ?_
                  refine th_baldF hC hB.1 hb12 ro_53 rfl (Eq.refl _) (by omega) (by omega) rfl gX12_row_7.2.2.2.2.2.2.1 (fun x33 mx33 lx33 ux33 => ?_)
                  replace hF := hF.trans (congrArg (dv_k f_X12_row_40b) (dv_bn (dv_aldI hB.1 hU hb12 ow_53 (z := j40_3.toInt) mx33 (by omega))))
                  have qx33 : x33.toInt = x13.toInt := by rw [show x33 = x13 from Value.int.inj (mx33.symm.trans mx13)]
                  refine lv_aload_n hx hb gX12_row_7.2.2.2.2.2.2.2 rfl (lv_at hl 2 rfl) ?_
                  refine th_getK hC cf_X12 hB.1 h0 ro_46 rfl (j := 11) (by decide) mb12 kf_X12_45 gX12_row_8.1 ?_
                  refine lv_iload_n hx hb gX12_row_8.2.1 rfl (lv_at hl 4 rfl) ?_
                  refine lv_iconst (v := 1) hx hb gX12_row_8.2.2.1 (by decide) ?_
                  refine tr_iadd hx hb gX12_row_8.2.2.2.1 (Eq.refl _) tk_1 (by omega) (by omega) (fun x34 ex34 => ?_)
                  replace hF := hF.trans (congrArg (dv_k f_X12_row_40b) (dv_bn (ex34.symm)))
                  refine th_baldF hC hB.1 hb12 ro_53 rfl (Eq.refl _) (by omega) (by omega) rfl gX12_row_8.2.2.2.2.1 (fun x35 mx35 lx35 ux35 => ?_)
                  replace hF := hF.trans (congrArg (dv_k f_X12_row_40b) (dv_bn (dv_aldI hB.1 hU hb12 ow_53 (z := x34.toInt) mx35 (by omega))))
                  refine lv_aload_n hx hb gX12_row_8.2.2.2.2.2.1 rfl (lv_at hl 2 rfl) ?_
                  refine th_getK hC cf_X12 hB.1 h0 ro_46 rfl (j := 11) (by decide) mb12 kf_X12_45 gX12_row_8.2.2.2.2.2.2.1 ?_
                  refine lv_iload_n hx hb gX12_row_8.2.2.2.2.2.2.2 rfl (lv_at hl 4 rfl) ?_
                  refine lv_iconst (v := 2) hx hb gX12_row_9.1 (by decide) ?_
                  refine tr_iadd hx hb gX12_row_9.2.1 (Eq.refl _) tk_2 (by omega) (by omega) (fun x36 ex36 => ?_)
                  replace hF := hF.trans (congrArg (dv_k f_X12_row_40b) (dv_bn (ex36.symm)))
                  refine th_baldF hC hB.1 hb12 ro_53 rfl (Eq.refl _) (by omega) (by omega) rfl gX12_row_9.2.2.1 (fun x37 mx37 lx37 ux37 => ?_)
                  replace hF := hF.trans (congrArg (dv_k f_X12_row_40b) (dv_bn (dv_aldI hB.1 hU hb12 ow_53 (z := x36.toInt) mx37 (by omega))))
                  refine th_call (th_runV (As := [.int x33, .int x35, .int x37]) (rest := []) hC mf_X12_adds km_X12_130 im_X12_adds se_X12_adds (c_X12_adds l G Γ H40 hB.1 hU a0 h0 (th_KE (th_ZK hR)) x33 (by omega) (by omega) x35 x37 (by omega)) rfl rfl ⟨Nat.le_of_ble_eq_true rfl, Nat.le_of_ble_eq_true rfl⟩ hB.1 h0 ro_46 rfl rfl hl.1 rfl (Nat.le_of_ble_eq_true rfl) gX12_row_9.2.2.2.1 ⟨Nat.le_refl _, Nat.le_refl _⟩) hB.2.1 (fun v119 H119 locs hp hz hS => ?_)
                  have hRD := hR
                  obtain ⟨rfl, hI1, hf, hR, z119_0, z119_1⟩ := hp
                  have hRc119 := hR
                  have hR := hRD
                  have hRC := hRc119.1
                  have hB := th_B_c hB hI1 hS hf (by decide)
                  have mm38 := (th_F_o hf h0 ro_46 (j := 11) (by decide) (by decide)).trans mb12
                  have fv_H119_33 : mo_f G H119 a0 33 = mo_f G H40 a0 33 := mo_f_F hf h0 (by decide) (by decide)
                  have vv_H119_3 : mo_v G H119 a0 3 = mo_v G H40 a0 3 := mo_v_F (r := 49) hB.1 hf h0 rfl ro_49 (by decide) (by decide)
                  have vv_H119_4 : mo_v G H119 a0 4 = mo_v G H40 a0 4 := mo_v_F (r := 50) hB.1 hf h0 rfl ro_50 (by decide) (by decide)
                  have vv_H119_31 : mo_v G H119 a0 31 = mo_v G H40 a0 31 := mo_v_F (r := 61) hB.1 hf h0 rfl ro_61 (by decide) (by decide)
                  replace hF := hF.trans (congrArg (dv_k f_X12_row_40b) (dv_bn2 (z119_1)))
                  refine W.eq (g2 := F0 m 122 ls []) rfl ?_
                  have hR : th_RZ a0 G Γ H119 := ⟨hRC, by rw [z119_0, vv_H119_3, vv_H119_4]; exact ⟨mo_kg_ad hR.2.1 rfl (by omega) (by omega) (by omega), hR.2.2⟩⟩
                  exact jn122 H119 locs ls hB hR (lv_sub hl [0, 1, 2, 3, 4] rfl) hF
      exact lp40 ((2147483648 : Int) - (0)).toNat H35 locs ls 0 0 hB hR (lv_sub hl [2, 3, 1, 0] rfl) (by rw [tk_0]; exact hF) (by decide) (by decide) (by have w0 := tk_0; omega)
    refine tr_if_ne (tgt := 34) hx hb gX12_row_2.2.2.1 (by decide) (Eq.refl _) (fun c27 => ?_) (fun c27 => ?_)
    · replace hF := hF.trans (if_pos c27)
      refine lv_iconst (v := 1) hx hb gX12_row_2.2.2.2.2.2.1 (by decide) ?_
      exact jn35 locs ls 1 hB (lv_sub hl [0, 1, 2] rfl) (by rw [tk_1]; exact hF) (by decide) (by decide)
    · replace hF := hF.trans (if_neg (not_not_intro c27))
      refine lv_iconst (v := 0) hx hb gX12_row_2.2.2.2.1 (by decide) ?_
      refine lv_goto (tgt := 35) hx hb gX12_row_2.2.2.2.2.1 (by decide) ?_
      exact jn35 locs ls 0 hB (lv_sub hl [0, 1, 2] rfl) (by rw [tk_0]; exact hF) (by decide) (by decide)
  · replace hF := hF.trans (if_neg (not_not_intro c11))
    refine lv_aload_n hx hb gX12_row_1.1 rfl (lv_at hl 1 rfl) ?_
    refine lv_bipush (v := (-6)) hx hb gX12_row_1.2.1 (by decide) ?_
    refine th_call (th_runV (As := [.int (-6)]) (rest := []) hC mf_X12_refuses km_X12_109 im_X12_refuses se_X12_refuses (c_X12_refuses l G Γ H7 hB.1 hR.1 hU a0 h0 (-6) (by decide) (by decide)) rfl rfl ⟨Nat.le_of_ble_eq_true rfl, Nat.le_of_ble_eq_true rfl⟩ hB.1 h0 ro_46 rfl rfl hl.1 rfl (Nat.le_of_ble_eq_true rfl) gX12_row_1.2.2.1 ⟨Nat.le_refl _, Nat.le_refl _⟩) hB.2.1 (fun v17 H17 locs hp hz hS => ?_)
    have hRD := hR
    obtain ⟨x39, rfl, q17_0, hI1, hf, hR, z17_0⟩ := hp
    have hR := th_RN_c hR hRD hI1 h0 hf (by decide)
    have hB := th_B_c hB hI1 hS hf (by decide)
    have fv_H17_33 : mo_f G H17 a0 33 = mo_f G H7 a0 33 := mo_f_F hf h0 (by decide) (by decide)
    have vv_H17_2 : mo_v G H17 a0 2 = mo_v G H7 a0 2 := mo_v_F (r := 48) hB.1 hf h0 rfl ro_48 (by decide) (by decide)
    have vv_H17_3 : mo_v G H17 a0 3 = mo_v G H7 a0 3 := mo_v_F (r := 49) hB.1 hf h0 rfl ro_49 (by decide) (by decide)
    have vv_H17_4 : mo_v G H17 a0 4 = mo_v G H7 a0 4 := mo_v_F (r := 50) hB.1 hf h0 rfl ro_50 (by decide) (by decide)
    have vv_H17_31 : mo_v G H17 a0 31 = mo_v G H7 a0 31 := mo_v_F (r := 61) hB.1 hf h0 rfl ro_61 (by decide) (by decide)
    have w17_0 := tk_m6
    have zf17 := z17_0
    rw [tk_m6] at zf17
    replace hF := hF.trans (dv_bn2 (zf17))
    refine W.eq (g2 := F0 m 20 ls [.int x39]) rfl ?_
    exact th_iret hC hH hr hlocks rfl hB.2.1 ⟨_, rfl, hB.1, hB.2.2, hR, (hF0.symm.trans hF)⟩ gX12_row_1.2.2.2.1
end
section
set_option maxHeartbeats 4000000 in
set_option maxRecDepth 100000 in
theorem c_X12_image (l : Launch) (G : th_G) (Γ : th_Ga) (H0 : Heap) (hI : th_I G Γ H0) (hU : dv_U Γ) (a0 : Nat) (h0 : Γ a0 = (46, 0)) (hR : th_RN a0 G Γ H0) (p1 : Int32) : Met l yX12_image (.code yX12_image cX12_image 3 (some FieldType.int) :: th_tb) ({ frames := 1, cells := 0, slots := 0, locals := 22 } : Room) (th_P [.ref a0, .int p1] G H0) (th_Q (fun (v : Option Value) (H1 : Heap) => ∃ r : Int32, v = some (.int r) ∧ (p1.toInt < 0 ∨ 1 < p1.toInt → r.toInt = -1) ∧ (0 ≤ p1.toInt ∧ p1.toInt ≤ 1 → r.toInt = 0) ∧ th_I G Γ H1 ∧ th_F G Γ [(47, 0), (46, 0), (49, 0), (50, 0)] H0 H1 ∧ th_RN a0 G Γ H1 ∧ (f_X12_image (dv G Γ H0) (a0 : Int) p1.toInt = (dv G Γ H1, r.toInt))) G) 0 0 (fun q => G.1.2.2 ≤ q) := by
  refine th_met RX12 (by decide) rfl (Nat.le_of_ble_eq_true rfl) ?_
  intro p e s m below meth c hC hH hr hlocks hnm ls hl
  have hx := hC.1
  have hb := hC.2.1
  have hB : th_B G Γ Γ [(47, 0), (46, 0), (49, 0), (50, 0)] H0 H0 [] := ⟨hI, va_S.rf, th_F_rf⟩
  have hl : lv_has ls 3 [(0, .ref a0), (1, .int p1)] := hl
  have lp1 := ti_lo p1; have up1 := ti_hi p1
  obtain ⟨F, hF0⟩ : ∃ F, F = f_X12_image (dv G Γ H0) ((a0 : Int)) (p1.toInt) := ⟨_, rfl⟩
  have hF := hF0.trans (f_X12_image.eq_1 (dv G Γ H0) ((a0 : Int)) (p1.toInt))
  refine lv_iload_n hx hb gX12_image_0.1 rfl (lv_at hl 1 rfl) ?_
  refine lv_iconst (v := 0) hx hb gX12_image_0.2.1 (by decide) ?_
  refine lv_iconst (v := 1) hx hb gX12_image_0.2.2.1 (by decide) ?_
  refine th_call (th_runS (As := [.int p1, .int 0, .int 1]) (rest := []) hC mf_X12_lies km_X12_18 st_X12_lies (c_X12_lies l G Γ H0 hB.1 hU p1 0 1) rfl rfl ⟨Nat.le_of_ble_eq_true rfl, Nat.le_of_ble_eq_true rfl⟩ rfl hl.1 rfl (Nat.le_of_ble_eq_true rfl) gX12_image_0.2.2.2.1 ⟨Nat.le_refl _, Nat.le_refl _⟩) hB.2.1 (fun v3 H3 locs hp hz hS => ?_)
  obtain ⟨x1, rfl, lx1, ux1, q3_0, q3_1, q3_2, rfl⟩ := hp
  have hB := th_B_s hB hS
  have w3_1 := tk_0
  have w3_2 := tk_1
  have zf3 := q3_2
  rw [tk_0, tk_1] at zf3
  replace hF := hF.trans (dv_bn2 (zf3))
  refine W.eq (g2 := F0 m 6 ls [.int x1]) rfl ?_
  refine tr_if_ne (tgt := 15) hx hb gX12_image_0.2.2.2.2.1 (by decide) (Eq.refl _) (fun c6 => ?_) (fun c6 => ?_)
  · replace hF := hF.trans (if_pos c6)
    refine lv_iconst (v := 0) hx hb gX12_image_1.2.1 (by decide) ?_
    have hR0 := hR
    have hR := th_NK hR
    refine lv_istore_n (lv' := [(2, .int 0), (0, .ref a0), (1, .int p1)]) hx hb gX12_image_1.2.2.1 rfl hl (by decide) rfl (fun ls hl => ?_)
    have lp17 : ∀ (n17 : Nat) (H17 : Heap) (locs : List Loc) (ls : Array Slot) (j17_2 : Int32), th_B G Γ Γ [(47, 0), (46, 0), (49, 0), (50, 0)] H0 H17 locs → th_RK a0 G Γ H17 → lv_has ls 3 [(0, .ref a0), (1, .int p1), (2, .int j17_2)] → F = dv_lp f_X12_image_17b (dv G Γ H17, (a0 : Int), p1.toInt, j17_2.toInt) → 0 ≤ j17_2.toInt → j17_2.toInt ≤ 5680 → (∀ z : Int, mo_v G H17 a0 3 z = if 5680 * p1.toInt ≤ z ∧ z < 5680 * p1.toInt + j17_2.toInt then mo_v G H0 a0 2 (z - 5680 * p1.toInt) else mo_v G H0 a0 3 z) → mo_v G H17 a0 4 = mo_v G H0 a0 4 → (2147483648 : Int) - j17_2.toInt ≤ (n17 : Int) → W p l e ({ frames := 1, cells := 0, slots := 0, locals := 22 } : Room) s m ([.ref a0, .int p1] : List Value).toArray below meth c H17 locs 0 0 (MQ below (th_Q (fun (v : Option Value) (H1 : Heap) => ∃ r : Int32, v = some (.int r) ∧ (p1.toInt < 0 ∨ 1 < p1.toInt → r.toInt = -1) ∧ (0 ≤ p1.toInt ∧ p1.toInt ≤ 1 → r.toInt = 0) ∧ th_I G Γ H1 ∧ th_F G Γ [(47, 0), (46, 0), (49, 0), (50, 0)] H0 H1 ∧ th_RN a0 G Γ H1 ∧ (f_X12_image (dv G Γ H0) (a0 : Int) p1.toInt = (dv G Γ H1, r.toInt))) G) ([.ref a0, .int p1] : List Value).toArray s 0 0 (fun q => G.1.2.2 ≤ q)) (F0 m 17 ls []) := by
      intro n17
      induction n17 with
      | zero => intro H17 locs ls j17_2 hB hR hl hF g17_0 g17_1 g17_2 g17_3 hm17; exact absurd hm17 (by have := ti_hi j17_2; omega)
      | succ n17 ih17 =>
        intro H17 locs ls j17_2 hB hR hl hF g17_0 g17_1 g17_2 g17_3 hm17
        have lj17_2 := ti_lo j17_2; have uj17_2 := ti_hi j17_2
        have fv2_33 : mo_f G H17 a0 33 = mo_f G H0 a0 33 := mo_f_F hB.2.2 h0 (by decide) (by decide)
        have vw_H17_2 : mo_v G H17 a0 2 = mo_v G H0 a0 2 := mo_v_F (r := 48) hB.1 hB.2.2 h0 rfl ro_48 (by decide) (by decide)
        have vw_H17_31 : mo_v G H17 a0 31 = mo_v G H0 a0 31 := mo_v_F (r := 61) hB.1 hB.2.2 h0 rfl ro_61 (by decide) (by decide)
        have hm17 : (2147483648 : Int) - j17_2.toInt ≤ (n17 : Int) + 1 := by omega
        replace hF := hF.trans (dv_lp_eq)
        replace hF := hF.trans (congrArg (dv_k f_X12_image_17b) (f_X12_image_17c.eq_1 (dv G Γ H17) ((a0 : Int)) (p1.toInt) (j17_2.toInt)))
        refine lv_iload_n hx hb gX12_image_1.2.2.2.1 rfl (lv_at hl 2 rfl) ?_
        refine lv_sipush (v := 5680) hx hb gX12_image_1.2.2.2.2.1 (by decide) ?_
        refine tr_icmp_ge (tgt := 48) hx hb gX12_image_1.2.2.2.2.2.1 (by decide) (Eq.refl _) tk_5680 (fun c21 => ?_) (fun c21 => ?_)
        · replace hF := hF.trans (congrArg (dv_k f_X12_image_17b) (if_pos c21))
          refine lv_aload_n hx hb gX12_image_3.2.2.2.2.1 rfl (lv_at hl 0 rfl) ?_
          refine th_getO (j := 4) (r2 := 50) hC cf_X12 hB.1 h0 ro_46 rfl rfl kf_X12_34 gX12_image_3.2.2.2.2.2.1 (fun b3 mb3 hb3 => ?_)
          refine lv_iload_n hx hb gX12_image_3.2.2.2.2.2.2.1 rfl (lv_at hl 1 rfl) ?_
          refine lv_iconst (v := 1) hx hb gX12_image_3.2.2.2.2.2.2.2 (by decide) ?_
          have hIo := hB.1
          refine th_zastF hC hB hb3 (Or.inl hb3) ro_50 rfl (by decide) (Eq.refl _) (by omega) (by omega) (th_sI (by decide) (by decide)) narrow_b1 gX12_image_4.1 (fun H54 locs hB hf54 hst54 => ?_)
          have hf := hf54
          have hR := th_RK_F hB.1 hR h0 hf (th_T_s hb3 ro_50 hst54) (by decide)
          have fv_H54_33 : mo_f G H54 a0 33 = mo_f G H17 a0 33 := mo_f_F hf h0 (by decide) (by decide)
          have vv_H54_2 : mo_v G H54 a0 2 = mo_v G H17 a0 2 := mo_v_F (r := 48) hB.1 hf h0 rfl ro_48 (by decide) (by decide)
          have vv_H54_3 : mo_v G H54 a0 3 = mo_v G H17 a0 3 := mo_v_F (r := 49) hB.1 hf h0 rfl ro_49 (by decide) (by decide)
          have vv_H54_31 : mo_v G H54 a0 31 = mo_v G H17 a0 31 := mo_v_F (r := 61) hB.1 hf h0 rfl ro_61 (by decide) (by decide)
          replace hF := hF.trans (congrArg (dv_k f_X12_image_17b) (dv_bn (dv_stoI hIo hB.1 hU hb3 ow_50 (i := p1.toInt) hst54 tk_1 (by omega))))
          have vs54 : mo_v G H54 a0 4 = mo_u (mo_v G H17 a0 4) p1.toInt 1 := by rw [show (p1.toInt : Int) = p1.toInt by omega]; exact mo_v_st h0 hb3 (by decide) mb3 hst54 (by omega)
          have hR : th_RN a0 G Γ H54 := ⟨hR.1, by rw [mo_v_F (j := 2) (r := 48) hB.1 hB.2.2 h0 rfl ro_48 (by decide) (by decide), mo_v_F (j := 31) (r := 61) hB.1 hB.2.2 h0 rfl ro_61 (by decide) (by decide), mo_f_F hB.2.2 h0 (j := 33) (by decide) (by decide), vs54, g17_3]; exact mo_ok_im hR0.2 (by omega) (by omega) (fun z => by rw [vv_H54_3, g17_2 z, show j17_2.toInt = 5680 by omega])⟩
          refine lv_aload_n hx hb gX12_image_4.2.1 rfl (lv_at hl 0 rfl) ?_
          refine lv_iconst (v := 0) hx hb gX12_image_4.2.2.1 (by decide) ?_
          refine th_call (th_runV (As := [.int 0]) (rest := []) hC mf_X12_good km_X12_14 im_X12_good se_X12_good (c_X12_good l G Γ H54 hB.1 hR.1 hU a0 h0 0) rfl rfl ⟨Nat.le_of_ble_eq_true rfl, Nat.le_of_ble_eq_true rfl⟩ hB.1 h0 ro_46 rfl rfl hl.1 rfl (Nat.le_of_ble_eq_true rfl) gX12_image_4.2.2.2.1 ⟨Nat.le_refl _, Nat.le_refl _⟩) hB.2.1 (fun v57 H57 locs hp hz hS => ?_)
          have hRD := hR
          obtain ⟨x4, rfl, q57_0, hI1, hf, hR, z57_0⟩ := hp
          have hR := th_RN_c hR hRD hI1 h0 hf (by decide)
          have hB := th_B_c hB hI1 hS hf (by decide)
          have fv_H57_33 : mo_f G H57 a0 33 = mo_f G H54 a0 33 := mo_f_F hf h0 (by decide) (by decide)
          have vv_H57_2 : mo_v G H57 a0 2 = mo_v G H54 a0 2 := mo_v_F (r := 48) hB.1 hf h0 rfl ro_48 (by decide) (by decide)
          have vv_H57_3 : mo_v G H57 a0 3 = mo_v G H54 a0 3 := mo_v_F (r := 49) hB.1 hf h0 rfl ro_49 (by decide) (by decide)
          have vv_H57_4 : mo_v G H57 a0 4 = mo_v G H54 a0 4 := mo_v_F (r := 50) hB.1 hf h0 rfl ro_50 (by decide) (by decide)
          have vv_H57_31 : mo_v G H57 a0 31 = mo_v G H54 a0 31 := mo_v_F (r := 61) hB.1 hf h0 rfl ro_61 (by decide) (by decide)
          have w57_0 := tk_0
          have zf57 := z57_0
          rw [tk_0] at zf57
          replace hF := hF.trans (congrArg (dv_k f_X12_image_17b) (dv_bn2 (zf57)))
          refine W.eq (g2 := F0 m 60 ls [.int x4]) rfl ?_
          replace hF := hF.trans (dv_kr)
          exact th_iret hC hH hr hlocks rfl hB.2.1 ⟨_, rfl, by intros; omega, by intros; omega, hB.1, hB.2.2, hR, (hF0.symm.trans hF)⟩ gX12_image_4.2.2.2.2
        · replace hF := hF.trans (congrArg (dv_k f_X12_image_17b) (if_neg (Int.not_le.mpr c21)))
          refine lv_aload_n hx hb gX12_image_1.2.2.2.2.2.2.1 rfl (lv_at hl 0 rfl) ?_
          refine th_getO (j := 3) (r2 := 49) hC cf_X12 hB.1 h0 ro_46 rfl rfl kf_X12_31 gX12_image_1.2.2.2.2.2.2.2 (fun b5 mb5 hb5 => ?_)
          have sb5 := (th_F_o hB.2.2 h0 ro_46 (j := 3) (by decide) (by decide)).symm.trans mb5
          refine lv_sipush (v := 5680) hx hb gX12_image_2.1 (by decide) ?_
          refine lv_iload_n hx hb gX12_image_2.2.1 rfl (lv_at hl 1 rfl) ?_
          refine tr_imul hx hb gX12_image_2.2.2.1 tk_5680 (Eq.refl _) (by omega) (by omega) (fun x6 ex6 => ?_)
          replace hF := hF.trans (congrArg (dv_k f_X12_image_17b) (dv_bn (ex6.symm)))
          refine lv_iload_n hx hb gX12_image_2.2.2.2.1 rfl (lv_at hl 2 rfl) ?_
          refine tr_iadd hx hb gX12_image_2.2.2.2.2.1 (Eq.refl _) (Eq.refl _) (by omega) (by omega) (fun x7 ex7 => ?_)
          replace hF := hF.trans (congrArg (dv_k f_X12_image_17b) (dv_bn (ex7.symm)))
          refine lv_aload_n hx hb gX12_image_2.2.2.2.2.2.1 rfl (lv_at hl 0 rfl) ?_
          refine th_getO (j := 2) (r2 := 48) hC cf_X12 hB.1 h0 ro_46 rfl rfl kf_X12_28 gX12_image_2.2.2.2.2.2.2.1 (fun b8 mb8 hb8 => ?_)
          have sb8 := (th_F_o hB.2.2 h0 ro_46 (j := 2) (by decide) (by decide)).symm.trans mb8
          refine lv_iload_n hx hb gX12_image_2.2.2.2.2.2.2.2 rfl (lv_at hl 2 rfl) ?_
          refine th_ialdS hC hB.1 hb8 ro_48 rfl (Eq.refl _) (by omega) (by omega) (th_esk1 _) gX12_image_3.1 (fun x9 mx9 tx9 => ?_)
          have lx9 := ti_lo x9; have ux9 := ti_hi x9
          replace hF := hF.trans (congrArg (dv_k f_X12_image_17b) (dv_bn (dv_aldI hB.1 hU hb8 ow_48 (z := j17_2.toInt) mx9 (by omega))))
          have vgx9 : mo_v G H0 a0 2 j17_2.toInt = x9.toInt := by rw [← (mo_v_F (r := 48) hB.1 hB.2.2 h0 rfl ro_48 (by decide) (by decide) : mo_v G H17 a0 2 = _)]; rw [show (j17_2.toInt : Int) = j17_2.toInt by omega]; exact mo_vat mb8 mx9 (by omega)
          have hIo := hB.1
          refine th_iastF hC hB hb5 (Or.inl hb5) ro_49 rfl (by decide) (Eq.refl _) (by omega) (by omega) (by rw [mo_esi (k := p1.toInt) (i := j17_2.toInt) (by omega) (by omega) (by omega) _ (by omega)]; exact th_sat_m (th_esk1 _) tx9) gX12_image_3.2.1 (fun H41 locs hB hf41 hst41 => ?_)
          have hf := hf41
          have mm10 := (th_F_o hf h0 ro_46 (j := 3) (by decide) (by decide)).trans mb5
          have mm11 := (th_F_o hf h0 ro_46 (j := 2) (by decide) (by decide)).trans mb8
          have hR := th_RK_F hB.1 hR h0 hf (th_T_s hb5 ro_49 hst41) (by decide)
          have fv_H41_33 : mo_f G H41 a0 33 = mo_f G H17 a0 33 := mo_f_F hf h0 (by decide) (by decide)
          have vv_H41_2 : mo_v G H41 a0 2 = mo_v G H17 a0 2 := mo_v_F (r := 48) hB.1 hf h0 rfl ro_48 (by decide) (by decide)
          have vv_H41_4 : mo_v G H41 a0 4 = mo_v G H17 a0 4 := mo_v_F (r := 50) hB.1 hf h0 rfl ro_50 (by decide) (by decide)
          have vv_H41_31 : mo_v G H41 a0 31 = mo_v G H17 a0 31 := mo_v_F (r := 61) hB.1 hf h0 rfl ro_61 (by decide) (by decide)
          replace hF := hF.trans (congrArg (dv_k f_X12_image_17b) (dv_bn (dv_stoI hIo hB.1 hU hb5 ow_49 (i := x7.toInt) hst41 (Eq.refl _) (by omega))))
          have vs41 : mo_v G H41 a0 3 = mo_u (mo_v G H17 a0 3) ((5680 * p1.toInt) + j17_2.toInt) x9.toInt := by rw [show (((5680 * p1.toInt) + j17_2.toInt) : Int) = x7.toInt by omega]; exact mo_v_st h0 hb5 (by decide) mb5 hst41 (by omega)
          refine tr_iinc (fun x12 => [(2, .int x12), (0, .ref a0), (1, .int p1)]) hx hb gX12_image_3.2.2.1 hl (k := 2) rfl (Eq.refl _) tk_1 (by omega) (by omega) (by decide) (fun _ => rfl) (fun x12 ls ex12 hl => ?_)
          replace hF := hF.trans (congrArg (dv_k f_X12_image_17b) (dv_bn (ex12.symm)))
          refine lv_goto (tgt := 17) hx hb gX12_image_3.2.2.2.1 (by decide) ?_
          replace hF := hF.trans (dv_kl)
          exact ih17 H41 locs ls x12 hB hR (lv_sub hl [1, 2, 0] rfl) hF (by omega) (by omega) (fun z => by rw [vs41]; by_cases q9 : z = ((5680 * p1.toInt) + j17_2.toInt); rw [mo_us q9, if_pos (by omega), ← vgx9]; congr 1; omega; rw [mo_un q9, g17_2]; by_cases q8 : 5680 * p1.toInt ≤ z ∧ z < 5680 * p1.toInt + j17_2.toInt; rw [if_pos q8, if_pos (by omega)]; rw [if_neg q8, if_neg (by omega)]) (vv_H41_4.trans g17_3) (by omega)
    exact lp17 ((2147483648 : Int) - (0)).toNat H0 locs ls 0 hB hR (lv_sub hl [1, 2, 0] rfl) (by rw [tk_0]; exact hF) (by decide) (by decide) (fun z => by rw [if_neg (by have w0 := tk_0; omega)]) rfl (by have w0 := tk_0; omega)
  · replace hF := hF.trans (if_neg (not_not_intro c6))
    refine lv_aload_n hx hb gX12_image_0.2.2.2.2.2.1 rfl (lv_at hl 0 rfl) ?_
    refine lv_iconst (v := (-1)) hx hb gX12_image_0.2.2.2.2.2.2.1 (by decide) ?_
    refine th_call (th_runV (As := [.int (-1)]) (rest := []) hC mf_X12_refuses km_X12_109 im_X12_refuses se_X12_refuses (c_X12_refuses l G Γ H0 hB.1 hR.1 hU a0 h0 (-1) (by decide) (by decide)) rfl rfl ⟨Nat.le_of_ble_eq_true rfl, Nat.le_of_ble_eq_true rfl⟩ hB.1 h0 ro_46 rfl rfl hl.1 rfl (Nat.le_of_ble_eq_true rfl) gX12_image_0.2.2.2.2.2.2.2 ⟨Nat.le_refl _, Nat.le_refl _⟩) hB.2.1 (fun v11 H11 locs hp hz hS => ?_)
    have hRD := hR
    obtain ⟨x13, rfl, q11_0, hI1, hf, hR, z11_0⟩ := hp
    have hR := th_RN_c hR hRD hI1 h0 hf (by decide)
    have hB := th_B_c hB hI1 hS hf (by decide)
    have fv_H11_33 : mo_f G H11 a0 33 = mo_f G H0 a0 33 := mo_f_F hf h0 (by decide) (by decide)
    have vv_H11_2 : mo_v G H11 a0 2 = mo_v G H0 a0 2 := mo_v_F (r := 48) hB.1 hf h0 rfl ro_48 (by decide) (by decide)
    have vv_H11_3 : mo_v G H11 a0 3 = mo_v G H0 a0 3 := mo_v_F (r := 49) hB.1 hf h0 rfl ro_49 (by decide) (by decide)
    have vv_H11_4 : mo_v G H11 a0 4 = mo_v G H0 a0 4 := mo_v_F (r := 50) hB.1 hf h0 rfl ro_50 (by decide) (by decide)
    have vv_H11_31 : mo_v G H11 a0 31 = mo_v G H0 a0 31 := mo_v_F (r := 61) hB.1 hf h0 rfl ro_61 (by decide) (by decide)
    have w11_0 := tk_m1
    have zf11 := z11_0
    rw [tk_m1] at zf11
    replace hF := hF.trans (dv_bn2 (zf11))
    refine W.eq (g2 := F0 m 14 ls [.int x13]) rfl ?_
    exact th_iret hC hH hr hlocks rfl hB.2.1 ⟨_, rfl, by intros; omega, by intros; omega, hB.1, hB.2.2, hR, (hF0.symm.trans hF)⟩ gX12_image_1.1

set_option maxHeartbeats 4000000 in
set_option maxRecDepth 100000 in
theorem c_X12_back (l : Launch) (G : th_G) (Γ : th_Ga) (H0 : Heap) (hI : th_I G Γ H0) (hU : dv_U Γ) (a0 : Nat) (h0 : Γ a0 = (46, 0)) (hR : th_RN a0 G Γ H0) (p1 : Int32) : Met l yX12_back (.code yX12_back cX12_back 3 (some FieldType.int) :: th_tb) ({ frames := 2, cells := 0, slots := 0, locals := 42 } : Room) (th_P [.ref a0, .int p1] G H0) (th_Q (fun (v : Option Value) (H1 : Heap) => ∃ r : Int32, v = some (.int r) ∧ th_I G Γ H1 ∧ th_F G Γ [(47, 0), (46, 0), (48, 0), (46, 33)] H0 H1 ∧ th_RN a0 G Γ H1 ∧ (f_X12_back (dv G Γ H0) (a0 : Int) p1.toInt = (dv G Γ H1, r.toInt))) G) 0 0 (fun q => G.1.2.2 ≤ q) := by
  refine th_met RX12 (by decide) rfl (Nat.le_of_ble_eq_true rfl) ?_
  intro p e s m below meth c hC hH hr hlocks hnm ls hl
  have hx := hC.1
  have hb := hC.2.1
  have hB : th_B G Γ Γ [(47, 0), (46, 0), (48, 0), (46, 33)] H0 H0 [] := ⟨hI, va_S.rf, th_F_rf⟩
  have hl : lv_has ls 3 [(0, .ref a0), (1, .int p1)] := hl
  have lp1 := ti_lo p1; have up1 := ti_hi p1
  obtain ⟨F, hF0⟩ : ∃ F, F = f_X12_back (dv G Γ H0) ((a0 : Int)) (p1.toInt) := ⟨_, rfl⟩
  have hF := hF0.trans (f_X12_back.eq_1 (dv G Γ H0) ((a0 : Int)) (p1.toInt))
  refine lv_iload_n hx hb gX12_back_0.1 rfl (lv_at hl 1 rfl) ?_
  refine lv_iconst (v := 0) hx hb gX12_back_0.2.1 (by decide) ?_
  refine lv_iconst (v := 1) hx hb gX12_back_0.2.2.1 (by decide) ?_
  refine th_call (th_runS (As := [.int p1, .int 0, .int 1]) (rest := []) hC mf_X12_lies km_X12_18 st_X12_lies (c_X12_lies l G Γ H0 hB.1 hU p1 0 1) rfl rfl ⟨Nat.le_of_ble_eq_true rfl, Nat.le_of_ble_eq_true rfl⟩ rfl hl.1 rfl (Nat.le_of_ble_eq_true rfl) gX12_back_0.2.2.2.1 ⟨Nat.le_refl _, Nat.le_refl _⟩) hB.2.1 (fun v3 H3 locs hp hz hS => ?_)
  obtain ⟨x1, rfl, lx1, ux1, q3_0, q3_1, q3_2, rfl⟩ := hp
  have hB := th_B_s hB hS
  have w3_1 := tk_0
  have w3_2 := tk_1
  have zf3 := q3_2
  rw [tk_0, tk_1] at zf3
  replace hF := hF.trans (dv_bn2 (zf3))
  refine W.eq (g2 := F0 m 6 ls [.int x1]) rfl ?_
  refine tr_if_ne (tgt := 15) hx hb gX12_back_0.2.2.2.2.1 (by decide) (Eq.refl _) (fun c6 => ?_) (fun c6 => ?_)
  · replace hF := hF.trans (if_pos c6)
    refine lv_aload_n hx hb gX12_back_1.2.1 rfl (lv_at hl 0 rfl) ?_
    refine th_getO (j := 4) (r2 := 50) hC cf_X12 hB.1 h0 ro_46 rfl rfl kf_X12_34 gX12_back_1.2.2.1 (fun b2 mb2 hb2 => ?_)
    refine lv_iload_n hx hb gX12_back_1.2.2.2.1 rfl (lv_at hl 1 rfl) ?_
    refine th_zaldF hC hB.1 hb2 ro_50 rfl (Eq.refl _) (by omega) (by omega) rfl gX12_back_1.2.2.2.2.1 (fun x3 mx3 lx3 ux3 => ?_)
    replace hF := hF.trans (dv_bn (dv_aldI hB.1 hU hb2 ow_50 (z := p1.toInt) mx3 (by omega)))
    have vgx3 : mo_v G H0 a0 4 p1.toInt = x3.toInt := by rw [show (p1.toInt : Int) = p1.toInt by omega]; exact mo_vat mb2 mx3 (by omega)
    refine tr_if_ne (tgt := 31) hx hb gX12_back_1.2.2.2.2.2.1 (by decide) (Eq.refl _) (fun c21 => ?_) (fun c21 => ?_)
    · replace hF := hF.trans (if_pos c21)
      refine lv_iconst (v := 0) hx hb gX12_back_2.2.2.1 (by decide) ?_
      have hR0 := hR
      have hR := hR.1
      have hs1 : mo_v G H0 a0 4 p1.toInt = 1 := by omega
      refine lv_istore_n (lv' := [(2, .int 0), (0, .ref a0), (1, .int p1)]) hx hb gX12_back_2.2.2.2.1 rfl hl (by decide) rfl (fun ls hl => ?_)
      have lp33 : ∀ (n33 : Nat) (H33 : Heap) (locs : List Loc) (ls : Array Slot) (j33_2 : Int32), th_B G Γ Γ [(47, 0), (46, 0), (48, 0), (46, 33)] H0 H33 locs → th_RC G Γ H33 → lv_has ls 3 [(0, .ref a0), (1, .int p1), (2, .int j33_2)] → F = dv_lp f_X12_back_33b (dv G Γ H33, (a0 : Int), p1.toInt, j33_2.toInt) → 0 ≤ j33_2.toInt → j33_2.toInt ≤ 5680 → (∀ z : Int, 0 ≤ z → mo_v G H33 a0 2 z = if z < j33_2.toInt then mo_v G H0 a0 3 (5680 * p1.toInt + z) else mo_v G H0 a0 2 z) → (2147483648 : Int) - j33_2.toInt ≤ (n33 : Int) → W p l e ({ frames := 2, cells := 0, slots := 0, locals := 42 } : Room) s m ([.ref a0, .int p1] : List Value).toArray below meth c H33 locs 0 0 (MQ below (th_Q (fun (v : Option Value) (H1 : Heap) => ∃ r : Int32, v = some (.int r) ∧ th_I G Γ H1 ∧ th_F G Γ [(47, 0), (46, 0), (48, 0), (46, 33)] H0 H1 ∧ th_RN a0 G Γ H1 ∧ (f_X12_back (dv G Γ H0) (a0 : Int) p1.toInt = (dv G Γ H1, r.toInt))) G) ([.ref a0, .int p1] : List Value).toArray s 0 0 (fun q => G.1.2.2 ≤ q)) (F0 m 33 ls []) := by
        intro n33
        induction n33 with
        | zero => intro H33 locs ls j33_2 hB hR hl hF g33_0 g33_1 g33_2 hm33; exact absurd hm33 (by have := ti_hi j33_2; omega)
        | succ n33 ih33 =>
          intro H33 locs ls j33_2 hB hR hl hF g33_0 g33_1 g33_2 hm33
          have lj33_2 := ti_lo j33_2; have uj33_2 := ti_hi j33_2
          have vw_H33_3 : mo_v G H33 a0 3 = mo_v G H0 a0 3 := mo_v_F (r := 49) hB.1 hB.2.2 h0 rfl ro_49 (by decide) (by decide)
          have vw_H33_4 : mo_v G H33 a0 4 = mo_v G H0 a0 4 := mo_v_F (r := 50) hB.1 hB.2.2 h0 rfl ro_50 (by decide) (by decide)
          have vw_H33_31 : mo_v G H33 a0 31 = mo_v G H0 a0 31 := mo_v_F (r := 61) hB.1 hB.2.2 h0 rfl ro_61 (by decide) (by decide)
          have hm33 : (2147483648 : Int) - j33_2.toInt ≤ (n33 : Int) + 1 := by omega
          replace hF := hF.trans (dv_lp_eq)
          replace hF := hF.trans (congrArg (dv_k f_X12_back_33b) (f_X12_back_33c.eq_1 (dv G Γ H33) ((a0 : Int)) (p1.toInt) (j33_2.toInt)))
          refine lv_iload_n hx hb gX12_back_2.2.2.2.2.1 rfl (lv_at hl 2 rfl) ?_
          refine lv_sipush (v := 5680) hx hb gX12_back_2.2.2.2.2.2.1 (by decide) ?_
          refine tr_icmp_ge (tgt := 64) hx hb gX12_back_2.2.2.2.2.2.2.1 (by decide) (Eq.refl _) tk_5680 (fun c37 => ?_) (fun c37 => ?_)
          · replace hF := hF.trans (congrArg (dv_k f_X12_back_33b) (if_pos c37))
            refine lv_aload_n hx hb gX12_back_4.2.2.2.2.2.1 rfl (lv_at hl 0 rfl) ?_
            refine lv_iconst (v := 0) hx hb gX12_back_4.2.2.2.2.2.2.1 (by decide) ?_
            refine th_call (th_runV (As := [.int 0]) (rest := []) hC mf_X12_settled km_X12_112 im_X12_settled se_X12_settled (c_X12_settled l G Γ H33 hB.1 hR hU a0 h0 0) rfl rfl ⟨Nat.le_of_ble_eq_true rfl, Nat.le_of_ble_eq_true rfl⟩ hB.1 h0 ro_46 rfl rfl hl.1 rfl (Nat.le_of_ble_eq_true rfl) gX12_back_4.2.2.2.2.2.2.2 ⟨Nat.le_refl _, Nat.le_refl _⟩) hB.2.1 (fun v66 H66 locs hp hz hS => ?_)
            obtain ⟨x4, rfl, q66_0, hI1, hf, hR, z66_0, z66_1⟩ := hp
            have hB := th_B_c hB hI1 hS hf (by decide)
            have vv_H66_2 : mo_v G H66 a0 2 = mo_v G H33 a0 2 := mo_v_F (r := 48) hB.1 hf h0 rfl ro_48 (by decide) (by decide)
            have vv_H66_3 : mo_v G H66 a0 3 = mo_v G H33 a0 3 := mo_v_F (r := 49) hB.1 hf h0 rfl ro_49 (by decide) (by decide)
            have vv_H66_4 : mo_v G H66 a0 4 = mo_v G H33 a0 4 := mo_v_F (r := 50) hB.1 hf h0 rfl ro_50 (by decide) (by decide)
            have vv_H66_31 : mo_v G H66 a0 31 = mo_v G H33 a0 31 := mo_v_F (r := 61) hB.1 hf h0 rfl ro_61 (by decide) (by decide)
            have w66_0 := tk_0
            have zf66 := z66_1
            rw [tk_0] at zf66
            replace hF := hF.trans (congrArg (dv_k f_X12_back_33b) (dv_bn2 (zf66)))
            refine W.eq (g2 := F0 m 69 ls [.int x4]) rfl ?_
            have hR : th_RN a0 G Γ H66 := th_ZN ⟨hR, by rw [mo_v_F (j := 3) (r := 49) hB.1 hB.2.2 h0 rfl ro_49 (by decide) (by decide), mo_v_F (j := 4) (r := 50) hB.1 hB.2.2 h0 rfl ro_50 (by decide) (by decide)]; exact ⟨mo_kg_ext (fun i a9 b9 => by rw [vv_H66_2, g33_2 i a9, if_pos (by omega)]) (hR0.2.2.1 p1.toInt (by omega) (by omega) hs1), hR0.2.2.1⟩⟩ z66_0
            replace hF := hF.trans (dv_kr)
            exact th_iret hC hH hr hlocks rfl hB.2.1 ⟨_, rfl, hB.1, hB.2.2, hR, (hF0.symm.trans hF)⟩ gX12_back_5
          · replace hF := hF.trans (congrArg (dv_k f_X12_back_33b) (if_neg (Int.not_le.mpr c37)))
            refine lv_aload_n hx hb gX12_back_2.2.2.2.2.2.2.2 rfl (lv_at hl 0 rfl) ?_
            refine th_getO (j := 2) (r2 := 48) hC cf_X12 hB.1 h0 ro_46 rfl rfl kf_X12_28 gX12_back_3.1 (fun b5 mb5 hb5 => ?_)
            have sb5 := (th_F_o hB.2.2 h0 ro_46 (j := 2) (by decide) (by decide)).symm.trans mb5
            refine lv_iload_n hx hb gX12_back_3.2.1 rfl (lv_at hl 2 rfl) ?_
            refine lv_aload_n hx hb gX12_back_3.2.2.1 rfl (lv_at hl 0 rfl) ?_
            refine th_getO (j := 3) (r2 := 49) hC cf_X12 hB.1 h0 ro_46 rfl rfl kf_X12_31 gX12_back_3.2.2.2.1 (fun b6 mb6 hb6 => ?_)
            have sb6 := (th_F_o hB.2.2 h0 ro_46 (j := 3) (by decide) (by decide)).symm.trans mb6
            refine lv_sipush (v := 5680) hx hb gX12_back_3.2.2.2.2.1 (by decide) ?_
            refine lv_iload_n hx hb gX12_back_3.2.2.2.2.2.1 rfl (lv_at hl 1 rfl) ?_
            refine tr_imul hx hb gX12_back_3.2.2.2.2.2.2.1 tk_5680 (Eq.refl _) (by omega) (by omega) (fun x7 ex7 => ?_)
            replace hF := hF.trans (congrArg (dv_k f_X12_back_33b) (dv_bn (ex7.symm)))
            refine lv_iload_n hx hb gX12_back_3.2.2.2.2.2.2.2 rfl (lv_at hl 2 rfl) ?_
            refine tr_iadd hx hb gX12_back_4.1 (Eq.refl _) (Eq.refl _) (by omega) (by omega) (fun x8 ex8 => ?_)
            replace hF := hF.trans (congrArg (dv_k f_X12_back_33b) (dv_bn (ex8.symm)))
            refine th_ialdS hC hB.1 hb6 ro_49 rfl (Eq.refl _) (by omega) (by omega) (th_esi1 _) gX12_back_4.2.1 (fun x9 mx9 tx9 => ?_)
            have lx9 := ti_lo x9; have ux9 := ti_hi x9
            replace hF := hF.trans (congrArg (dv_k f_X12_back_33b) (dv_bn (dv_aldI hB.1 hU hb6 ow_49 (z := x8.toInt) mx9 (by omega))))
            have vgx9 : mo_v G H0 a0 3 ((5680 * p1.toInt) + j33_2.toInt) = x9.toInt := by rw [← (mo_v_F (r := 49) hB.1 hB.2.2 h0 rfl ro_49 (by decide) (by decide) : mo_v G H33 a0 3 = _)]; rw [show (((5680 * p1.toInt) + j33_2.toInt) : Int) = x8.toInt by omega]; exact mo_vat mb6 mx9 (by omega)
            have hIo := hB.1
            refine th_iastF hC hB hb5 (Or.inl hb5) ro_48 rfl (by decide) (Eq.refl _) (by omega) (by omega) (by rw [← mo_esi (k := p1.toInt) (i := j33_2.toInt) (by omega) (by omega) (by omega) _ rfl]; have q9 := tx9; rw [show x8.toInt = 5680 * p1.toInt + j33_2.toInt by omega] at q9; exact th_sat_m (th_esi1 _) q9) gX12_back_4.2.2.1 (fun H57 locs hB hf57 hst57 => ?_)
            have hf := hf57
            have mm10 := (th_F_o hf h0 ro_46 (j := 2) (by decide) (by decide)).trans mb5
            have mm11 := (th_F_o hf h0 ro_46 (j := 3) (by decide) (by decide)).trans mb6
            have hR := th_RC_F hB.1 hR hf (th_T_s hb5 ro_48 hst57) (by decide)
            have fv_H57_33 : mo_f G H57 a0 33 = mo_f G H33 a0 33 := mo_f_F hf h0 (by decide) (by decide)
            have vv_H57_3 : mo_v G H57 a0 3 = mo_v G H33 a0 3 := mo_v_F (r := 49) hB.1 hf h0 rfl ro_49 (by decide) (by decide)
            have vv_H57_4 : mo_v G H57 a0 4 = mo_v G H33 a0 4 := mo_v_F (r := 50) hB.1 hf h0 rfl ro_50 (by decide) (by decide)
            have vv_H57_31 : mo_v G H57 a0 31 = mo_v G H33 a0 31 := mo_v_F (r := 61) hB.1 hf h0 rfl ro_61 (by decide) (by decide)
            replace hF := hF.trans (congrArg (dv_k f_X12_back_33b) (dv_bn (dv_stoI hIo hB.1 hU hb5 ow_48 (i := j33_2.toInt) hst57 (Eq.refl _) (by omega))))
            have vs57 : mo_v G H57 a0 2 = mo_u (mo_v G H33 a0 2) j33_2.toInt x9.toInt := by rw [show (j33_2.toInt : Int) = j33_2.toInt by omega]; exact mo_v_st h0 hb5 (by decide) mb5 hst57 (by omega)
            refine tr_iinc (fun x12 => [(2, .int x12), (0, .ref a0), (1, .int p1)]) hx hb gX12_back_4.2.2.2.1 hl (k := 2) rfl (Eq.refl _) tk_1 (by omega) (by omega) (by decide) (fun _ => rfl) (fun x12 ls ex12 hl => ?_)
            replace hF := hF.trans (congrArg (dv_k f_X12_back_33b) (dv_bn (ex12.symm)))
            refine lv_goto (tgt := 33) hx hb gX12_back_4.2.2.2.2.1 (by decide) ?_
            replace hF := hF.trans (dv_kl)
            exact ih33 H57 locs ls x12 hB hR (lv_sub hl [1, 2, 0] rfl) hF (by omega) (by omega) (fun z a9 => by rw [vs57]; by_cases q9 : z = j33_2.toInt; rw [mo_us q9, if_pos (by omega), q9, ← vgx9]; rw [mo_un q9, g33_2 z a9]; by_cases q8 : z < j33_2.toInt; rw [if_pos q8, if_pos (by omega)]; rw [if_neg q8, if_neg (by omega)]) (by omega)
      exact lp33 ((2147483648 : Int) - (0)).toNat H0 locs ls 0 hB hR (lv_sub hl [1, 2, 0] rfl) (by rw [tk_0]; exact hF) (by decide) (by decide) (fun z a9 => by rw [if_neg (by have w0 := tk_0; omega)]) (by have w0 := tk_0; omega)
    · replace hF := hF.trans (if_neg (not_not_intro c21))
      refine lv_aload_n hx hb gX12_back_1.2.2.2.2.2.2.1 rfl (lv_at hl 0 rfl) ?_
      refine lv_bipush (v := (-2)) hx hb gX12_back_1.2.2.2.2.2.2.2 (by decide) ?_
      refine th_call (th_runV (As := [.int (-2)]) (rest := []) hC mf_X12_refuses km_X12_109 im_X12_refuses se_X12_refuses (c_X12_refuses l G Γ H0 hB.1 hR.1 hU a0 h0 (-2) (by decide) (by decide)) rfl rfl ⟨Nat.le_of_ble_eq_true rfl, Nat.le_of_ble_eq_true rfl⟩ hB.1 h0 ro_46 rfl rfl hl.1 rfl (Nat.le_of_ble_eq_true rfl) gX12_back_2.1 ⟨Nat.le_refl _, Nat.le_refl _⟩) hB.2.1 (fun v27 H27 locs hp hz hS => ?_)
      have hRD := hR
      obtain ⟨x13, rfl, q27_0, hI1, hf, hR, z27_0⟩ := hp
      have hR := th_RN_c hR hRD hI1 h0 hf (by decide)
      have hB := th_B_c hB hI1 hS hf (by decide)
      have fv_H27_33 : mo_f G H27 a0 33 = mo_f G H0 a0 33 := mo_f_F hf h0 (by decide) (by decide)
      have vv_H27_2 : mo_v G H27 a0 2 = mo_v G H0 a0 2 := mo_v_F (r := 48) hB.1 hf h0 rfl ro_48 (by decide) (by decide)
      have vv_H27_3 : mo_v G H27 a0 3 = mo_v G H0 a0 3 := mo_v_F (r := 49) hB.1 hf h0 rfl ro_49 (by decide) (by decide)
      have vv_H27_4 : mo_v G H27 a0 4 = mo_v G H0 a0 4 := mo_v_F (r := 50) hB.1 hf h0 rfl ro_50 (by decide) (by decide)
      have vv_H27_31 : mo_v G H27 a0 31 = mo_v G H0 a0 31 := mo_v_F (r := 61) hB.1 hf h0 rfl ro_61 (by decide) (by decide)
      have w27_0 := tk_m2
      have zf27 := z27_0
      rw [tk_m2] at zf27
      replace hF := hF.trans (dv_bn2 (zf27))
      refine W.eq (g2 := F0 m 30 ls [.int x13]) rfl ?_
      exact th_iret hC hH hr hlocks rfl hB.2.1 ⟨_, rfl, hB.1, hB.2.2, hR, (hF0.symm.trans hF)⟩ gX12_back_2.2.1
  · replace hF := hF.trans (if_neg (not_not_intro c6))
    refine lv_aload_n hx hb gX12_back_0.2.2.2.2.2.1 rfl (lv_at hl 0 rfl) ?_
    refine lv_iconst (v := (-1)) hx hb gX12_back_0.2.2.2.2.2.2.1 (by decide) ?_
    refine th_call (th_runV (As := [.int (-1)]) (rest := []) hC mf_X12_refuses km_X12_109 im_X12_refuses se_X12_refuses (c_X12_refuses l G Γ H0 hB.1 hR.1 hU a0 h0 (-1) (by decide) (by decide)) rfl rfl ⟨Nat.le_of_ble_eq_true rfl, Nat.le_of_ble_eq_true rfl⟩ hB.1 h0 ro_46 rfl rfl hl.1 rfl (Nat.le_of_ble_eq_true rfl) gX12_back_0.2.2.2.2.2.2.2 ⟨Nat.le_refl _, Nat.le_refl _⟩) hB.2.1 (fun v11 H11 locs hp hz hS => ?_)
    have hRD := hR
    obtain ⟨x14, rfl, q11_0, hI1, hf, hR, z11_0⟩ := hp
    have hR := th_RN_c hR hRD hI1 h0 hf (by decide)
    have hB := th_B_c hB hI1 hS hf (by decide)
    have fv_H11_33 : mo_f G H11 a0 33 = mo_f G H0 a0 33 := mo_f_F hf h0 (by decide) (by decide)
    have vv_H11_2 : mo_v G H11 a0 2 = mo_v G H0 a0 2 := mo_v_F (r := 48) hB.1 hf h0 rfl ro_48 (by decide) (by decide)
    have vv_H11_3 : mo_v G H11 a0 3 = mo_v G H0 a0 3 := mo_v_F (r := 49) hB.1 hf h0 rfl ro_49 (by decide) (by decide)
    have vv_H11_4 : mo_v G H11 a0 4 = mo_v G H0 a0 4 := mo_v_F (r := 50) hB.1 hf h0 rfl ro_50 (by decide) (by decide)
    have vv_H11_31 : mo_v G H11 a0 31 = mo_v G H0 a0 31 := mo_v_F (r := 61) hB.1 hf h0 rfl ro_61 (by decide) (by decide)
    have w11_0 := tk_m1
    have zf11 := z11_0
    rw [tk_m1] at zf11
    replace hF := hF.trans (dv_bn2 (zf11))
    refine W.eq (g2 := F0 m 14 ls [.int x14]) rfl ?_
    exact th_iret hC hH hr hlocks rfl hB.2.1 ⟨_, rfl, hB.1, hB.2.2, hR, (hF0.symm.trans hF)⟩ gX12_back_1.1

set_option maxHeartbeats 4000000 in
set_option maxRecDepth 100000 in
theorem c_X12_force (l : Launch) (G : th_G) (Γ : th_Ga) (H0 : Heap) (hI : th_I G Γ H0) (hU : dv_U Γ) (a0 : Nat) (h0 : Γ a0 = (46, 0)) (hR : th_RN a0 G Γ H0) (p1 : Int32) : Met l yX12_force (.code yX12_force cX12_force 3 (some FieldType.int) :: th_tb) ({ frames := 2, cells := 0, slots := 0, locals := 43 } : Room) (th_P [.ref a0, .int p1] G H0) (th_Q (fun (v : Option Value) (H1 : Heap) => ∃ r : Int32, v = some (.int r) ∧ th_I G Γ H1 ∧ th_F G Γ [(47, 0), (46, 0), (48, 0)] H0 H1 ∧ th_RN a0 G Γ H1 ∧ (f_X12_force (dv G Γ H0) (a0 : Int) p1.toInt = (dv G Γ H1, r.toInt))) G) 0 0 (fun q => G.1.2.2 ≤ q) := by
  refine th_met RX12 (by decide) rfl (Nat.le_of_ble_eq_true rfl) ?_
  intro p e s m below meth c hC hH hr hlocks hnm ls hl
  have hx := hC.1
  have hb := hC.2.1
  have hB : th_B G Γ Γ [(47, 0), (46, 0), (48, 0)] H0 H0 [] := ⟨hI, va_S.rf, th_F_rf⟩
  have hl : lv_has ls 3 [(0, .ref a0), (1, .int p1)] := hl
  have lp1 := ti_lo p1; have up1 := ti_hi p1
  obtain ⟨F, hF0⟩ : ∃ F, F = f_X12_force (dv G Γ H0) ((a0 : Int)) (p1.toInt) := ⟨_, rfl⟩
  have hF := hF0.trans (f_X12_force.eq_1 (dv G Γ H0) ((a0 : Int)) (p1.toInt))
  refine lv_aload_n hx hb gX12_force_0.1 rfl (lv_at hl 0 rfl) ?_
  refine lv_iload_n hx hb gX12_force_0.2.1 rfl (lv_at hl 1 rfl) ?_
  refine th_call (th_runV (As := [.int p1]) (rest := []) hC mf_X12_isLaw km_X12_275 im_X12_isLaw se_X12_isLaw (c_X12_isLaw l G Γ H0 hB.1 hU a0 h0 p1) rfl rfl ⟨Nat.le_of_ble_eq_true rfl, Nat.le_of_ble_eq_true rfl⟩ hB.1 h0 ro_46 rfl rfl hl.1 rfl (Nat.le_of_ble_eq_true rfl) gX12_force_0.2.2.1 ⟨Nat.le_refl _, Nat.le_refl _⟩) hB.2.1 (fun v2 H2 locs hp hz hS => ?_)
  obtain ⟨x1, rfl, lx1, ux1, q2_0, q2_1, rfl⟩ := hp
  have hB := th_B_s hB hS
  replace hF := hF.trans (dv_bn2 (q2_1))
  refine W.eq (g2 := F0 m 5 ls [.int x1]) rfl ?_
  refine tr_if_ne (tgt := 15) hx hb gX12_force_0.2.2.2.1 (by decide) (Eq.refl _) (fun c5 => ?_) (fun c5 => ?_)
  · replace hF := hF.trans (if_pos c5)
    refine lv_aload_n hx hb gX12_force_1.1 rfl (lv_at hl 0 rfl) ?_
    refine th_getO (j := 2) (r2 := 48) hC cf_X12 hB.1 h0 ro_46 rfl rfl kf_X12_28 gX12_force_1.2.1 (fun b2 mb2 hb2 => ?_)
    refine lv_bipush (v := 72) hx hb gX12_force_1.2.2.1 (by decide) ?_
    refine th_ialdF hC hB.1 hb2 ro_48 rfl tk_72 (by omega) (by omega) (ek_force (by omega) (by omega)) gX12_force_1.2.2.2.1 (fun x3 mx3 lx3 ux3 => ?_)
    replace hF := hF.trans (dv_bn (dv_aldI hB.1 hU hb2 ow_48 (z := 72) mx3 (by omega)))
    have vgx3 : mo_v G H0 a0 2 72 = x3.toInt := by rw [show (72 : Int) = 72 by omega]; exact mo_vat mb2 mx3 (by omega)
    refine lv_istore_n (lv' := [(2, .int x3), (0, .ref a0), (1, .int p1)]) hx hb gX12_force_1.2.2.2.2.1 rfl hl (by decide) rfl (fun ls hl => ?_)
    refine lv_aload_n hx hb gX12_force_1.2.2.2.2.2.1 rfl (lv_at hl 1 rfl) ?_
    refine th_getK hC cf_X12 hB.1 h0 ro_46 rfl (j := 2) (by decide) mb2 kf_X12_28 gX12_force_1.2.2.2.2.2.2.1 ?_
    refine lv_bipush (v := 72) hx hb gX12_force_1.2.2.2.2.2.2.2 (by decide) ?_
    refine lv_iload_n hx hb gX12_force_2.1 rfl (lv_at hl 2 rfl) ?_
    have hIo := hB.1
    refine th_iastF hC hB hb2 (Or.inl hb2) ro_48 rfl (by decide) tk_72 (by omega) (by omega) (by rw [(ek_force (by omega) (by omega))]; exact (th_sI (by omega) (by omega))) gX12_force_2.2.1 (fun H30 locs hB hf30 hst30 => ?_)
    have hf := hf30
    have mm4 := (th_F_o hf h0 ro_46 (j := 2) (by decide) (by decide)).trans mb2
    have hRC := th_RC_F hB.1 hR.1 hf (th_T_s hb2 ro_48 hst30) (by decide)
    have fv_H30_33 : mo_f G H30 a0 33 = mo_f G H0 a0 33 := mo_f_F hf h0 (by decide) (by decide)
    have vv_H30_3 : mo_v G H30 a0 3 = mo_v G H0 a0 3 := mo_v_F (r := 49) hB.1 hf h0 rfl ro_49 (by decide) (by decide)
    have vv_H30_4 : mo_v G H30 a0 4 = mo_v G H0 a0 4 := mo_v_F (r := 50) hB.1 hf h0 rfl ro_50 (by decide) (by decide)
    have vv_H30_31 : mo_v G H30 a0 31 = mo_v G H0 a0 31 := mo_v_F (r := 61) hB.1 hf h0 rfl ro_61 (by decide) (by decide)
    replace hF := hF.trans (dv_bn (dv_stoI hIo hB.1 hU hb2 ow_48 (i := 72) hst30 (Eq.refl _) (by omega)))
    have vs30 : mo_v G H30 a0 2 = mo_u (mo_v G H0 a0 2) 72 p1.toInt := by rw [show (72 : Int) = 72 by omega]; exact mo_v_st h0 hb2 (by decide) mb2 hst30 (by omega)
    have hR : th_RN a0 G Γ H30 := ⟨hRC, by rw [vs30, vv_H30_3, vv_H30_4, vv_H30_31, fv_H30_33]; exact mo_ok_f hR.2 (by omega)⟩
    refine lv_aload_n hx hb gX12_force_2.2.2.1 rfl (lv_at hl 1 rfl) ?_
    refine lv_iload_n hx hb gX12_force_2.2.2.2.1 rfl (lv_at hl 0 rfl) ?_
    refine th_call (th_runV (As := [.int x3]) (rest := []) hC mf_X12_good km_X12_14 im_X12_good se_X12_good (c_X12_good l G Γ H30 hB.1 hR.1 hU a0 h0 x3) rfl rfl ⟨Nat.le_of_ble_eq_true rfl, Nat.le_of_ble_eq_true rfl⟩ hB.1 h0 ro_46 rfl rfl hl.1 rfl (Nat.le_of_ble_eq_true rfl) gX12_force_2.2.2.2.2.1 ⟨Nat.le_refl _, Nat.le_refl _⟩) hB.2.1 (fun v33 H33 locs hp hz hS => ?_)
    have hRD := hR
    obtain ⟨x5, rfl, q33_0, hI1, hf, hR, z33_0⟩ := hp
    have hR := th_RN_c hR hRD hI1 h0 hf (by decide)
    have hB := th_B_c hB hI1 hS hf (by decide)
    have mm6 := (th_F_o hf h0 ro_46 (j := 2) (by decide) (by decide)).trans mm4
    have fv_H33_33 : mo_f G H33 a0 33 = mo_f G H30 a0 33 := mo_f_F hf h0 (by decide) (by decide)
    have vv_H33_2 : mo_v G H33 a0 2 = mo_v G H30 a0 2 := mo_v_F (r := 48) hB.1 hf h0 rfl ro_48 (by decide) (by decide)
    have vv_H33_3 : mo_v G H33 a0 3 = mo_v G H30 a0 3 := mo_v_F (r := 49) hB.1 hf h0 rfl ro_49 (by decide) (by decide)
    have vv_H33_4 : mo_v G H33 a0 4 = mo_v G H30 a0 4 := mo_v_F (r := 50) hB.1 hf h0 rfl ro_50 (by decide) (by decide)
    have vv_H33_31 : mo_v G H33 a0 31 = mo_v G H30 a0 31 := mo_v_F (r := 61) hB.1 hf h0 rfl ro_61 (by decide) (by decide)
    replace hF := hF.trans (dv_bn2 (z33_0))
    refine W.eq (g2 := F0 m 36 ls [.int x5]) rfl ?_
    exact th_iret hC hH hr hlocks rfl hB.2.1 ⟨_, rfl, hB.1, hB.2.2, hR, (hF0.symm.trans hF)⟩ gX12_force_2.2.2.2.2.2
  · replace hF := hF.trans (if_neg (not_not_intro c5))
    refine lv_aload_n hx hb gX12_force_0.2.2.2.2.1 rfl (lv_at hl 0 rfl) ?_
    refine lv_bipush (v := (-2)) hx hb gX12_force_0.2.2.2.2.2.1 (by decide) ?_
    refine th_call (th_runV (As := [.int (-2)]) (rest := []) hC mf_X12_refuses km_X12_109 im_X12_refuses se_X12_refuses (c_X12_refuses l G Γ H0 hB.1 hR.1 hU a0 h0 (-2) (by decide) (by decide)) rfl rfl ⟨Nat.le_of_ble_eq_true rfl, Nat.le_of_ble_eq_true rfl⟩ hB.1 h0 ro_46 rfl rfl hl.1 rfl (Nat.le_of_ble_eq_true rfl) gX12_force_0.2.2.2.2.2.2.1 ⟨Nat.le_refl _, Nat.le_refl _⟩) hB.2.1 (fun v11 H11 locs hp hz hS => ?_)
    have hRD := hR
    obtain ⟨x7, rfl, q11_0, hI1, hf, hR, z11_0⟩ := hp
    have hR := th_RN_c hR hRD hI1 h0 hf (by decide)
    have hB := th_B_c hB hI1 hS hf (by decide)
    have fv_H11_33 : mo_f G H11 a0 33 = mo_f G H0 a0 33 := mo_f_F hf h0 (by decide) (by decide)
    have vv_H11_2 : mo_v G H11 a0 2 = mo_v G H0 a0 2 := mo_v_F (r := 48) hB.1 hf h0 rfl ro_48 (by decide) (by decide)
    have vv_H11_3 : mo_v G H11 a0 3 = mo_v G H0 a0 3 := mo_v_F (r := 49) hB.1 hf h0 rfl ro_49 (by decide) (by decide)
    have vv_H11_4 : mo_v G H11 a0 4 = mo_v G H0 a0 4 := mo_v_F (r := 50) hB.1 hf h0 rfl ro_50 (by decide) (by decide)
    have vv_H11_31 : mo_v G H11 a0 31 = mo_v G H0 a0 31 := mo_v_F (r := 61) hB.1 hf h0 rfl ro_61 (by decide) (by decide)
    have w11_0 := tk_m2
    have zf11 := z11_0
    rw [tk_m2] at zf11
    replace hF := hF.trans (dv_bn2 (zf11))
    refine W.eq (g2 := F0 m 14 ls [.int x7]) rfl ?_
    exact th_iret hC hH hr hlocks rfl hB.2.1 ⟨_, rfl, hB.1, hB.2.2, hR, (hF0.symm.trans hF)⟩ gX12_force_0.2.2.2.2.2.2.2

set_option maxHeartbeats 4000000 in
set_option maxRecDepth 100000 in
theorem c_X12_seen (l : Launch) (G : th_G) (Γ : th_Ga) (H0 : Heap) (hI : th_I G Γ H0) (hU : dv_U Γ) (a0 : Nat) (h0 : Γ a0 = (46, 0)) (hR : th_RN a0 G Γ H0) (p1 : Int32) (p2 : Int32) (p3 : Int32) : Met l yX12_seen (.code yX12_seen cX12_seen 5 (some FieldType.int) :: th_tb) ({ frames := 2, cells := 0, slots := 0, locals := 42 } : Room) (th_P [.ref a0, .int p1, .int p2, .int p3] G H0) (th_Q (fun (v : Option Value) (H1 : Heap) => ∃ r : Int32, v = some (.int r) ∧ th_I G Γ H1 ∧ th_F G Γ [(47, 0), (46, 0), (48, 0)] H0 H1 ∧ th_RN a0 G Γ H1 ∧ (f_X12_seen (dv G Γ H0) (a0 : Int) p1.toInt p2.toInt p3.toInt = (dv G Γ H1, r.toInt))) G) 0 0 (fun q => G.1.2.2 ≤ q) := by
  refine th_met RX12 (by decide) rfl (Nat.le_of_ble_eq_true rfl) ?_
  intro p e s m below meth c hC hH hr hlocks hnm ls hl
  have hx := hC.1
  have hb := hC.2.1
  have hB : th_B G Γ Γ [(47, 0), (46, 0), (48, 0)] H0 H0 [] := ⟨hI, va_S.rf, th_F_rf⟩
  have hl : lv_has ls 5 [(0, .ref a0), (1, .int p1), (2, .int p2), (3, .int p3)] := hl
  have lp1 := ti_lo p1; have up1 := ti_hi p1
  have lp2 := ti_lo p2; have up2 := ti_hi p2
  have lp3 := ti_lo p3; have up3 := ti_hi p3
  obtain ⟨F, hF0⟩ : ∃ F, F = f_X12_seen (dv G Γ H0) ((a0 : Int)) (p1.toInt) (p2.toInt) (p3.toInt) := ⟨_, rfl⟩
  have hF := hF0.trans (f_X12_seen.eq_1 (dv G Γ H0) ((a0 : Int)) (p1.toInt) (p2.toInt) (p3.toInt))
  refine lv_iload_n hx hb gX12_seen_0.1 rfl (lv_at hl 1 rfl) ?_
  refine th_call (th_runS (As := [.int p1]) (rest := []) hC mf_X12_isAlong km_X12_149 st_X12_isAlong (c_X12_isAlong l G Γ H0 hB.1 hU p1) rfl rfl ⟨Nat.le_of_ble_eq_true rfl, Nat.le_of_ble_eq_true rfl⟩ rfl hl.1 rfl (Nat.le_of_ble_eq_true rfl) gX12_seen_0.2.1 ⟨Nat.le_refl _, Nat.le_refl _⟩) hB.2.1 (fun v1 H1 locs hp hz hS => ?_)
  obtain ⟨x1, rfl, lx1, ux1, q1_0, q1_1, rfl⟩ := hp
  have hB := th_B_s hB hS
  replace hF := hF.trans (dv_bn2 (q1_1))
  refine W.eq (g2 := F0 m 4 ls [.int x1]) rfl ?_
  have jn21 : ∀ (locs : List Loc) (ls : Array Slot) , th_B G Γ Γ [(47, 0), (46, 0), (48, 0)] H0 H0 locs → lv_has ls 5 [(0, .ref a0)] → F = f_X12_seen_21 (dv G Γ H0) ((a0 : Int)) → W p l e ({ frames := 2, cells := 0, slots := 0, locals := 42 } : Room) s m ([.ref a0, .int p1, .int p2, .int p3] : List Value).toArray below meth c H0 locs 0 0 (MQ below (th_Q (fun (v : Option Value) (H1 : Heap) => ∃ r : Int32, v = some (.int r) ∧ th_I G Γ H1 ∧ th_F G Γ [(47, 0), (46, 0), (48, 0)] H0 H1 ∧ th_RN a0 G Γ H1 ∧ (f_X12_seen (dv G Γ H0) (a0 : Int) p1.toInt p2.toInt p3.toInt = (dv G Γ H1, r.toInt))) G) ([.ref a0, .int p1, .int p2, .int p3] : List Value).toArray s 0 0 (fun q => G.1.2.2 ≤ q)) (F0 m 21 ls []) := by
    intro locs ls hB hl hF
    replace hF := hF.trans (f_X12_seen_21.eq_1 (dv G Γ H0) ((a0 : Int)))
    refine lv_aload_n hx hb gX12_seen_1.2.1 rfl (lv_at hl 0 rfl) ?_
    refine lv_iconst (v := (-1)) hx hb gX12_seen_1.2.2.1 (by decide) ?_
    refine th_call (th_runV (As := [.int (-1)]) (rest := []) hC mf_X12_refuses km_X12_109 im_X12_refuses se_X12_refuses (c_X12_refuses l G Γ H0 hB.1 hR.1 hU a0 h0 (-1) (by decide) (by decide)) rfl rfl ⟨Nat.le_of_ble_eq_true rfl, Nat.le_of_ble_eq_true rfl⟩ hB.1 h0 ro_46 rfl rfl hl.1 rfl (Nat.le_of_ble_eq_true rfl) gX12_seen_1.2.2.2.1 ⟨Nat.le_refl _, Nat.le_refl _⟩) hB.2.1 (fun v23 H23 locs hp hz hS => ?_)
    have hRD := hR
    obtain ⟨x2, rfl, q23_0, hI1, hf, hR, z23_0⟩ := hp
    have hR := th_RN_c hR hRD hI1 h0 hf (by decide)
    have hB := th_B_c hB hI1 hS hf (by decide)
    have fv_H23_33 : mo_f G H23 a0 33 = mo_f G H0 a0 33 := mo_f_F hf h0 (by decide) (by decide)
    have vv_H23_2 : mo_v G H23 a0 2 = mo_v G H0 a0 2 := mo_v_F (r := 48) hB.1 hf h0 rfl ro_48 (by decide) (by decide)
    have vv_H23_3 : mo_v G H23 a0 3 = mo_v G H0 a0 3 := mo_v_F (r := 49) hB.1 hf h0 rfl ro_49 (by decide) (by decide)
    have vv_H23_4 : mo_v G H23 a0 4 = mo_v G H0 a0 4 := mo_v_F (r := 50) hB.1 hf h0 rfl ro_50 (by decide) (by decide)
    have vv_H23_31 : mo_v G H23 a0 31 = mo_v G H0 a0 31 := mo_v_F (r := 61) hB.1 hf h0 rfl ro_61 (by decide) (by decide)
    have w23_0 := tk_m1
    have zf23 := z23_0
    rw [tk_m1] at zf23
    replace hF := hF.trans (dv_bn2 (zf23))
    refine W.eq (g2 := F0 m 26 ls [.int x2]) rfl ?_
    exact th_iret hC hH hr hlocks rfl hB.2.1 ⟨_, rfl, hB.1, hB.2.2, hR, (hF0.symm.trans hF)⟩ gX12_seen_1.2.2.2.2.1
  refine tr_if_eq (tgt := 21) hx hb gX12_seen_0.2.2.1 (by decide) (Eq.refl _) (fun c4 => ?_) (fun c4 => ?_)
  · replace hF := hF.trans (if_pos c4)
    exact jn21 locs ls hB (lv_sub hl [0] rfl) hF
  · replace hF := hF.trans (if_neg c4)
    refine lv_iload_n hx hb gX12_seen_0.2.2.2.1 rfl (lv_at hl 2 rfl) ?_
    refine th_call (th_runS (As := [.int p2]) (rest := []) hC mf_X12_isAlong km_X12_149 st_X12_isAlong (c_X12_isAlong l G Γ H0 hB.1 hU p2) rfl rfl ⟨Nat.le_of_ble_eq_true rfl, Nat.le_of_ble_eq_true rfl⟩ rfl hl.1 rfl (Nat.le_of_ble_eq_true rfl) gX12_seen_0.2.2.2.2.1 ⟨Nat.le_refl _, Nat.le_refl _⟩) hB.2.1 (fun v8 H8 locs hp hz hS => ?_)
    obtain ⟨x3, rfl, lx3, ux3, q8_0, q8_1, rfl⟩ := hp
    have hB := th_B_s hB hS
    replace hF := hF.trans (dv_bn2 (q8_1))
    refine W.eq (g2 := F0 m 11 ls [.int x3]) rfl ?_
    refine tr_if_eq (tgt := 21) hx hb gX12_seen_0.2.2.2.2.2.1 (by decide) (Eq.refl _) (fun c11 => ?_) (fun c11 => ?_)
    · replace hF := hF.trans (if_pos c11)
      exact jn21 locs ls hB (lv_sub hl [0] rfl) hF
    · replace hF := hF.trans (if_neg c11)
      refine lv_iload_n hx hb gX12_seen_0.2.2.2.2.2.2.1 rfl (lv_at hl 3 rfl) ?_
      refine th_call (th_runS (As := [.int p3]) (rest := []) hC mf_X12_isSide km_X12_119 st_X12_isSide (c_X12_isSide l G Γ H0 hB.1 hU p3) rfl rfl ⟨Nat.le_of_ble_eq_true rfl, Nat.le_of_ble_eq_true rfl⟩ rfl hl.1 rfl (Nat.le_of_ble_eq_true rfl) gX12_seen_0.2.2.2.2.2.2.2 ⟨Nat.le_refl _, Nat.le_refl _⟩) hB.2.1 (fun v15 H15 locs hp hz hS => ?_)
      obtain ⟨x4, rfl, lx4, ux4, q15_0, q15_1, rfl⟩ := hp
      have hB := th_B_s hB hS
      replace hF := hF.trans (dv_bn2 (q15_1))
      refine W.eq (g2 := F0 m 18 ls [.int x4]) rfl ?_
      refine tr_if_ne (tgt := 27) hx hb gX12_seen_1.1 (by decide) (Eq.refl _) (fun c18 => ?_) (fun c18 => ?_)
      · replace hF := hF.trans (if_pos c18)
        refine lv_bipush (v := 47) hx hb gX12_seen_1.2.2.2.2.2.1 (by decide) ?_
        refine lv_iconst (v := 3) hx hb gX12_seen_1.2.2.2.2.2.2.1 (by decide) ?_
        refine lv_aload_n hx hb gX12_seen_1.2.2.2.2.2.2.2 rfl (lv_at hl 0 rfl) ?_
        refine th_getO (j := 2) (r2 := 48) hC cf_X12 hB.1 h0 ro_46 rfl rfl kf_X12_28 gX12_seen_2.1 (fun b5 mb5 hb5 => ?_)
        refine lv_bipush (v := 70) hx hb gX12_seen_2.2.1 (by decide) ?_
        refine th_ialdF hC hB.1 hb5 ro_48 rfl tk_70 (by omega) (by omega) (ek_seen (by omega) (by omega)) gX12_seen_2.2.2.1 (fun x6 mx6 lx6 ux6 => ?_)
        replace hF := hF.trans (dv_bn (dv_aldI hB.1 hU hb5 ow_48 (z := 70) mx6 (by omega)))
        have vgx6 : mo_v G H0 a0 2 70 = x6.toInt := by rw [show (70 : Int) = 70 by omega]; exact mo_vat mb5 mx6 (by omega)
        refine tr_imul hx hb gX12_seen_2.2.2.2.1 tk_3 (Eq.refl _) (by omega) (by omega) (fun x7 ex7 => ?_)
        replace hF := hF.trans (dv_bn (ex7.symm))
        refine tr_iadd hx hb gX12_seen_2.2.2.2.2.1 tk_47 (Eq.refl _) (by omega) (by omega) (fun x8 ex8 => ?_)
        replace hF := hF.trans (dv_bn (ex8.symm))
        refine lv_istore (lv' := [(4, .int x8), (0, .ref a0), (1, .int p1), (2, .int p2), (3, .int p3)]) hx hb gX12_seen_2.2.2.2.2.2.1 hl (by decide) rfl (fun ls hl => ?_)
        refine lv_aload_n hx hb gX12_seen_2.2.2.2.2.2.2.1 rfl (lv_at hl 1 rfl) ?_
        refine th_getK hC cf_X12 hB.1 h0 ro_46 rfl (j := 2) (by decide) mb5 kf_X12_28 gX12_seen_2.2.2.2.2.2.2.2 ?_
        refine lv_bipush (v := 70) hx hb gX12_seen_3.1 (by decide) ?_
        refine th_ialdF hC hB.1 hb5 ro_48 rfl tk_70 (by omega) (by omega) (ek_seen (by omega) (by omega)) gX12_seen_3.2.1 (fun x9 mx9 lx9 ux9 => ?_)
        replace hF := hF.trans (dv_bn (dv_aldI hB.1 hU hb5 ow_48 (z := 70) mx9 (by omega)))
        have vgx9 : mo_v G H0 a0 2 70 = x9.toInt := by rw [show (70 : Int) = 70 by omega]; exact mo_vat mb5 mx9 (by omega)
        have qx9 : x9.toInt = x6.toInt := by rw [show x9 = x6 from Value.int.inj (mx9.symm.trans mx6)]
        refine lv_bipush (v := 6) hx hb gX12_seen_3.2.2.1 (by decide) ?_
        refine tr_icmp_ne (tgt := 60) hx hb gX12_seen_3.2.2.2.1 (by decide) (Eq.refl _) tk_6 (fun c50 => ?_) (fun c50 => ?_)
        · replace hF := hF.trans (if_pos c50)
          refine lv_aload_n hx hb gX12_seen_4.1 rfl (lv_at hl 1 rfl) ?_
          refine th_getK hC cf_X12 hB.1 h0 ro_46 rfl (j := 2) (by decide) mb5 kf_X12_28 gX12_seen_4.2.1 ?_
          refine lv_iload hx hb gX12_seen_4.2.2.1 (lv_at hl 0 rfl) ?_
          refine lv_iload_n hx hb gX12_seen_4.2.2.2.1 rfl (lv_at hl 2 rfl) ?_
          have hIo := hB.1
          refine th_iastF hC hB hb5 (Or.inl hb5) ro_48 rfl (by decide) (Eq.refl _) (by omega) (by omega) (by rw [(ek_b (by omega) (by omega))]; exact th_sIa) gX12_seen_4.2.2.2.2.1 (fun H67 locs hB hf67 hst67 => ?_)
          have hf := hf67
          have mm10 := (th_F_o hf h0 ro_46 (j := 2) (by decide) (by decide)).trans mb5
          have hRC := th_RC_F hB.1 hR.1 hf (th_T_s hb5 ro_48 hst67) (by decide)
          have fv_H67_33 : mo_f G H67 a0 33 = mo_f G H0 a0 33 := mo_f_F hf h0 (by decide) (by decide)
          have vv_H67_3 : mo_v G H67 a0 3 = mo_v G H0 a0 3 := mo_v_F (r := 49) hB.1 hf h0 rfl ro_49 (by decide) (by decide)
          have vv_H67_4 : mo_v G H67 a0 4 = mo_v G H0 a0 4 := mo_v_F (r := 50) hB.1 hf h0 rfl ro_50 (by decide) (by decide)
          have vv_H67_31 : mo_v G H67 a0 31 = mo_v G H0 a0 31 := mo_v_F (r := 61) hB.1 hf h0 rfl ro_61 (by decide) (by decide)
          replace hF := hF.trans (dv_bn (dv_stoI hIo hB.1 hU hb5 ow_48 (i := x8.toInt) hst67 (Eq.refl _) (by omega)))
          have vs67 : mo_v G H67 a0 2 = mo_u (mo_v G H0 a0 2) (47 + (3 * x6.toInt)) p1.toInt := by rw [show ((47 + (3 * x6.toInt)) : Int) = x8.toInt by omega]; exact mo_v_st h0 hb5 (by decide) mb5 hst67 (by omega)
          refine lv_aload_n hx hb gX12_seen_4.2.2.2.2.2.1 rfl (lv_at hl 1 rfl) ?_
          refine th_getK hC cf_X12 hB.1 h0 ro_46 rfl (j := 2) (by decide) mm10 kf_X12_28 gX12_seen_4.2.2.2.2.2.2.1 ?_
          refine lv_iload hx hb gX12_seen_4.2.2.2.2.2.2.2 (lv_at hl 0 rfl) ?_
          refine lv_iconst (v := 1) hx hb gX12_seen_5.1 (by decide) ?_
          refine tr_iadd hx hb gX12_seen_5.2.1 (Eq.refl _) tk_1 (by omega) (by omega) (fun x11 ex11 => ?_)
          replace hF := hF.trans (dv_bn (ex11.symm))
          refine lv_iload_n hx hb gX12_seen_5.2.2.1 rfl (lv_at hl 3 rfl) ?_
          have hIo := hB.1
          refine th_iastF hC hB hb5 (Or.inl hb5) ro_48 rfl (by decide) (Eq.refl _) (by omega) (by omega) (by rw [(ek_b (by omega) (by omega))]; exact th_sIa) gX12_seen_5.2.2.2.1 (fun H77 locs hB hf77 hst77 => ?_)
          have hf := hf77
          have mm12 := (th_F_o hf h0 ro_46 (j := 2) (by decide) (by decide)).trans mm10
          have hRC := th_RC_F hB.1 hRC hf (th_T_s hb5 ro_48 hst77) (by decide)
          have fv_H77_33 : mo_f G H77 a0 33 = mo_f G H67 a0 33 := mo_f_F hf h0 (by decide) (by decide)
          have vv_H77_3 : mo_v G H77 a0 3 = mo_v G H67 a0 3 := mo_v_F (r := 49) hB.1 hf h0 rfl ro_49 (by decide) (by decide)
          have vv_H77_4 : mo_v G H77 a0 4 = mo_v G H67 a0 4 := mo_v_F (r := 50) hB.1 hf h0 rfl ro_50 (by decide) (by decide)
          have vv_H77_31 : mo_v G H77 a0 31 = mo_v G H67 a0 31 := mo_v_F (r := 61) hB.1 hf h0 rfl ro_61 (by decide) (by decide)
          replace hF := hF.trans (dv_bn (dv_stoI hIo hB.1 hU hb5 ow_48 (i := x11.toInt) hst77 (Eq.refl _) (by omega)))
          have vs77 : mo_v G H77 a0 2 = mo_u (mo_v G H67 a0 2) ((47 + (3 * x6.toInt)) + 1) p2.toInt := by rw [show (((47 + (3 * x6.toInt)) + 1) : Int) = x11.toInt by omega]; exact mo_v_st h0 hb5 (by decide) mm10 hst77 (by omega)
          refine lv_aload_n hx hb gX12_seen_5.2.2.2.2.1 rfl (lv_at hl 1 rfl) ?_
          refine th_getK hC cf_X12 hB.1 h0 ro_46 rfl (j := 2) (by decide) mm12 kf_X12_28 gX12_seen_5.2.2.2.2.2.1 ?_
          refine lv_iload hx hb gX12_seen_5.2.2.2.2.2.2.1 (lv_at hl 0 rfl) ?_
          refine lv_iconst (v := 2) hx hb gX12_seen_5.2.2.2.2.2.2.2 (by decide) ?_
          refine tr_iadd hx hb gX12_seen_6.1 (Eq.refl _) tk_2 (by omega) (by omega) (fun x13 ex13 => ?_)
          replace hF := hF.trans (dv_bn (ex13.symm))
          refine lv_iload_n hx hb gX12_seen_6.2.1 rfl (lv_at hl 4 rfl) ?_
          have hIo := hB.1
          refine th_iastF hC hB hb5 (Or.inl hb5) ro_48 rfl (by decide) (Eq.refl _) (by omega) (by omega) (by rw [(ek_b (by omega) (by omega))]; exact th_sIa) gX12_seen_6.2.2.1 (fun H87 locs hB hf87 hst87 => ?_)
          have hf := hf87
          have mm14 := (th_F_o hf h0 ro_46 (j := 2) (by decide) (by decide)).trans mm12
          have hRC := th_RC_F hB.1 hRC hf (th_T_s hb5 ro_48 hst87) (by decide)
          have fv_H87_33 : mo_f G H87 a0 33 = mo_f G H77 a0 33 := mo_f_F hf h0 (by decide) (by decide)
          have vv_H87_3 : mo_v G H87 a0 3 = mo_v G H77 a0 3 := mo_v_F (r := 49) hB.1 hf h0 rfl ro_49 (by decide) (by decide)
          have vv_H87_4 : mo_v G H87 a0 4 = mo_v G H77 a0 4 := mo_v_F (r := 50) hB.1 hf h0 rfl ro_50 (by decide) (by decide)
          have vv_H87_31 : mo_v G H87 a0 31 = mo_v G H77 a0 31 := mo_v_F (r := 61) hB.1 hf h0 rfl ro_61 (by decide) (by decide)
          replace hF := hF.trans (dv_bn (dv_stoI hIo hB.1 hU hb5 ow_48 (i := x13.toInt) hst87 (Eq.refl _) (by omega)))
          have vs87 : mo_v G H87 a0 2 = mo_u (mo_v G H77 a0 2) ((47 + (3 * x6.toInt)) + 2) p3.toInt := by rw [show (((47 + (3 * x6.toInt)) + 2) : Int) = x13.toInt by omega]; exact mo_v_st h0 hb5 (by decide) mm12 hst87 (by omega)
          refine lv_aload_n hx hb gX12_seen_6.2.2.2.1 rfl (lv_at hl 1 rfl) ?_
          refine th_getK hC cf_X12 hB.1 h0 ro_46 rfl (j := 2) (by decide) mm14 kf_X12_28 gX12_seen_6.2.2.2.2.1 ?_
          refine lv_bipush (v := 70) hx hb gX12_seen_6.2.2.2.2.2.1 (by decide) ?_
          refine lv_dup2_11 hx hb gX12_seen_6.2.2.2.2.2.2.1 rfl rfl ?_
          refine th_ialdF hC hB.1 hb5 ro_48 rfl tk_70 (by omega) (by omega) (ek_seen (by omega) (by omega)) gX12_seen_6.2.2.2.2.2.2.2 (fun x15 mx15 lx15 ux15 => ?_)
          replace hF := hF.trans (dv_bn (dv_aldI hB.1 hU hb5 ow_48 (z := 70) mx15 (by omega)))
          have vgx15 : mo_v G H87 a0 2 70 = x15.toInt := by rw [show (70 : Int) = 70 by omega]; exact mo_vat mm14 mx15 (by omega)
          have e95 : x15.toInt ≤ 5 := by have q9 := vgx15; rw [vs87, mo_un (by omega), vs77, mo_un (by omega), vs67, mo_un (by omega)] at q9; omega
          refine lv_iconst (v := 1) hx hb gX12_seen_7.1 (by decide) ?_
          refine tr_iadd hx hb gX12_seen_7.2.1 (Eq.refl _) tk_1 (by omega) (by omega) (fun x16 ex16 => ?_)
          replace hF := hF.trans (dv_bn (ex16.symm))
          have hIo := hB.1
          refine th_iastF hC hB hb5 (Or.inl hb5) ro_48 rfl (by decide) tk_70 (by omega) (by omega) (by rw [(ek_seen (by omega) (by omega))]; exact (th_sI (by omega) (by omega))) gX12_seen_7.2.2.1 (fun H98 locs hB hf98 hst98 => ?_)
          have hf := hf98
          have mm17 := (th_F_o hf h0 ro_46 (j := 2) (by decide) (by decide)).trans mm14
          have hRC := th_RC_F hB.1 hRC hf (th_T_s hb5 ro_48 hst98) (by decide)
          have fv_H98_33 : mo_f G H98 a0 33 = mo_f G H87 a0 33 := mo_f_F hf h0 (by decide) (by decide)
          have vv_H98_3 : mo_v G H98 a0 3 = mo_v G H87 a0 3 := mo_v_F (r := 49) hB.1 hf h0 rfl ro_49 (by decide) (by decide)
          have vv_H98_4 : mo_v G H98 a0 4 = mo_v G H87 a0 4 := mo_v_F (r := 50) hB.1 hf h0 rfl ro_50 (by decide) (by decide)
          have vv_H98_31 : mo_v G H98 a0 31 = mo_v G H87 a0 31 := mo_v_F (r := 61) hB.1 hf h0 rfl ro_61 (by decide) (by decide)
          replace hF := hF.trans (dv_bn (dv_stoI hIo hB.1 hU hb5 ow_48 (i := 70) hst98 (Eq.refl _) (by omega)))
          have vs98 : mo_v G H98 a0 2 = mo_u (mo_v G H87 a0 2) 70 x16.toInt := by rw [show (70 : Int) = 70 by omega]; exact mo_v_st h0 hb5 (by decide) mm14 hst98 (by omega)
          have hR : th_RN a0 G Γ H98 := ⟨hRC, by rw [vs98, vs87, vs77, vs67, vv_H98_3, vv_H87_3, vv_H77_3, vv_H67_3, vv_H98_4, vv_H87_4, vv_H77_4, vv_H67_4, vv_H98_31, vv_H87_31, vv_H77_31, vv_H67_31, fv_H98_33, fv_H87_33, fv_H77_33, fv_H67_33]; exact (mo_ok_u (mo_ok_u (mo_ok_u (mo_ok_u hR.2 (by omega)) (by omega)) (by omega)) (by omega))⟩
          refine lv_aload_n hx hb gX12_seen_7.2.2.2.1 rfl (lv_at hl 1 rfl) ?_
          refine lv_aload_n hx hb gX12_seen_7.2.2.2.2.1 rfl (lv_at hl 1 rfl) ?_
          refine th_getK hC cf_X12 hB.1 h0 ro_46 rfl (j := 2) (by decide) mm17 kf_X12_28 gX12_seen_7.2.2.2.2.2.1 ?_
          refine lv_bipush (v := 70) hx hb gX12_seen_7.2.2.2.2.2.2.1 (by decide) ?_
          refine th_ialdF hC hB.1 hb5 ro_48 rfl tk_70 (by omega) (by omega) (ek_seen (by omega) (by omega)) gX12_seen_7.2.2.2.2.2.2.2 (fun x18 mx18 lx18 ux18 => ?_)
          replace hF := hF.trans (dv_bn (dv_aldI hB.1 hU hb5 ow_48 (z := 70) mx18 (by omega)))
          have vgx18 : mo_v G H98 a0 2 70 = x18.toInt := by rw [show (70 : Int) = 70 by omega]; exact mo_vat mm17 mx18 (by omega)
          refine th_call (th_runV (As := [.int x18]) (rest := []) hC mf_X12_good km_X12_14 im_X12_good se_X12_good (c_X12_good l G Γ H98 hB.1 hR.1 hU a0 h0 x18) rfl rfl ⟨Nat.le_of_ble_eq_true rfl, Nat.le_of_ble_eq_true rfl⟩ hB.1 h0 ro_46 rfl rfl hl.1 rfl (Nat.le_of_ble_eq_true rfl) gX12_seen_8.1 ⟨Nat.le_refl _, Nat.le_refl _⟩) hB.2.1 (fun v107 H107 locs hp hz hS => ?_)
          have hRD := hR
          obtain ⟨x19, rfl, q107_0, hI1, hf, hR, z107_0⟩ := hp
          have hR := th_RN_c hR hRD hI1 h0 hf (by decide)
          have hB := th_B_c hB hI1 hS hf (by decide)
          have mm20 := (th_F_o hf h0 ro_46 (j := 2) (by decide) (by decide)).trans mm17
          have fv_H107_33 : mo_f G H107 a0 33 = mo_f G H98 a0 33 := mo_f_F hf h0 (by decide) (by decide)
          have vv_H107_2 : mo_v G H107 a0 2 = mo_v G H98 a0 2 := mo_v_F (r := 48) hB.1 hf h0 rfl ro_48 (by decide) (by decide)
          have vv_H107_3 : mo_v G H107 a0 3 = mo_v G H98 a0 3 := mo_v_F (r := 49) hB.1 hf h0 rfl ro_49 (by decide) (by decide)
          have vv_H107_4 : mo_v G H107 a0 4 = mo_v G H98 a0 4 := mo_v_F (r := 50) hB.1 hf h0 rfl ro_50 (by decide) (by decide)
          have vv_H107_31 : mo_v G H107 a0 31 = mo_v G H98 a0 31 := mo_v_F (r := 61) hB.1 hf h0 rfl ro_61 (by decide) (by decide)
          replace hF := hF.trans (dv_bn2 (z107_0))
          refine W.eq (g2 := F0 m 110 ls [.int x19]) rfl ?_
          exact th_iret hC hH hr hlocks rfl hB.2.1 ⟨_, rfl, hB.1, hB.2.2, hR, (hF0.symm.trans hF)⟩ gX12_seen_8.2
        · replace hF := hF.trans (if_neg (not_not_intro c50))
          refine lv_aload_n hx hb gX12_seen_3.2.2.2.2.1 rfl (lv_at hl 1 rfl) ?_
          refine lv_bipush (v := (-5)) hx hb gX12_seen_3.2.2.2.2.2.1 (by decide) ?_
          refine th_call (th_runV (As := [.int (-5)]) (rest := []) hC mf_X12_refuses km_X12_109 im_X12_refuses se_X12_refuses (c_X12_refuses l G Γ H0 hB.1 hR.1 hU a0 h0 (-5) (by decide) (by decide)) rfl rfl ⟨Nat.le_of_ble_eq_true rfl, Nat.le_of_ble_eq_true rfl⟩ hB.1 h0 ro_46 rfl rfl hl.1 rfl (Nat.le_of_ble_eq_true rfl) gX12_seen_3.2.2.2.2.2.2.1 ⟨Nat.le_refl _, Nat.le_refl _⟩) hB.2.1 (fun v56 H56 locs hp hz hS => ?_)
          have hRD := hR
          obtain ⟨x21, rfl, q56_0, hI1, hf, hR, z56_0⟩ := hp
          have hR := th_RN_c hR hRD hI1 h0 hf (by decide)
          have hB := th_B_c hB hI1 hS hf (by decide)
          have mm22 := (th_F_o hf h0 ro_46 (j := 2) (by decide) (by decide)).trans mb5
          have fv_H56_33 : mo_f G H56 a0 33 = mo_f G H0 a0 33 := mo_f_F hf h0 (by decide) (by decide)
          have vv_H56_2 : mo_v G H56 a0 2 = mo_v G H0 a0 2 := mo_v_F (r := 48) hB.1 hf h0 rfl ro_48 (by decide) (by decide)
          have vv_H56_3 : mo_v G H56 a0 3 = mo_v G H0 a0 3 := mo_v_F (r := 49) hB.1 hf h0 rfl ro_49 (by decide) (by decide)
          have vv_H56_4 : mo_v G H56 a0 4 = mo_v G H0 a0 4 := mo_v_F (r := 50) hB.1 hf h0 rfl ro_50 (by decide) (by decide)
          have vv_H56_31 : mo_v G H56 a0 31 = mo_v G H0 a0 31 := mo_v_F (r := 61) hB.1 hf h0 rfl ro_61 (by decide) (by decide)
          have w56_0 := tk_m5
          have zf56 := z56_0
          rw [tk_m5] at zf56
          replace hF := hF.trans (dv_bn2 (zf56))
          refine W.eq (g2 := F0 m 59 ls [.int x21]) rfl ?_
          exact th_iret hC hH hr hlocks rfl hB.2.1 ⟨_, rfl, hB.1, hB.2.2, hR, (hF0.symm.trans hF)⟩ gX12_seen_3.2.2.2.2.2.2.2
      · replace hF := hF.trans (if_neg (not_not_intro c18))
        exact jn21 locs ls hB (lv_sub hl [0] rfl) hF

set_option maxHeartbeats 4000000 in
set_option maxRecDepth 100000 in
theorem c_X12_forget (l : Launch) (G : th_G) (Γ : th_Ga) (H0 : Heap) (hI : th_I G Γ H0) (hU : dv_U Γ) (a0 : Nat) (h0 : Γ a0 = (46, 0)) (hR : th_RN a0 G Γ H0) : Met l yX12_forget (.code yX12_forget cX12_forget 2 (some FieldType.int) :: th_tb) ({ frames := 0, cells := 0, slots := 0, locals := 0 } : Room) (th_P [.ref a0] G H0) (th_Q (fun (v : Option Value) (H1 : Heap) => ∃ r : Int32, v = some (.int r) ∧ th_I G Γ H1 ∧ th_F G Γ [(48, 0)] H0 H1 ∧ th_RN a0 G Γ H1 ∧ (f_X12_forget (dv G Γ H0) (a0 : Int) = (dv G Γ H1, r.toInt))) G) 0 0 (fun q => G.1.2.2 ≤ q) := by
  refine th_met RX12 (by decide) rfl (Nat.le_of_ble_eq_true rfl) ?_
  intro p e s m below meth c hC hH hr hlocks hnm ls hl
  have hx := hC.1
  have hb := hC.2.1
  have hB : th_B G Γ Γ [(48, 0)] H0 H0 [] := ⟨hI, va_S.rf, th_F_rf⟩
  have hl : lv_has ls 2 [(0, .ref a0)] := hl
  obtain ⟨F, hF0⟩ : ∃ F, F = f_X12_forget (dv G Γ H0) ((a0 : Int)) := ⟨_, rfl⟩
  have hF := hF0.trans (f_X12_forget.eq_1 (dv G Γ H0) ((a0 : Int)))
  refine lv_aload_n hx hb gX12_forget_0.1 rfl (lv_at hl 0 rfl) ?_
  refine th_getO (j := 2) (r2 := 48) hC cf_X12 hB.1 h0 ro_46 rfl rfl kf_X12_28 gX12_forget_0.2.1 (fun b1 mb1 hb1 => ?_)
  refine lv_bipush (v := 70) hx hb gX12_forget_0.2.2.1 (by decide) ?_
  refine th_ialdF hC hB.1 hb1 ro_48 rfl tk_70 (by omega) (by omega) (ek_seen (by omega) (by omega)) gX12_forget_0.2.2.2.1 (fun x2 mx2 lx2 ux2 => ?_)
  replace hF := hF.trans (dv_bn (dv_aldI hB.1 hU hb1 ow_48 (z := 70) mx2 (by omega)))
  have vgx2 : mo_v G H0 a0 2 70 = x2.toInt := by rw [show (70 : Int) = 70 by omega]; exact mo_vat mb1 mx2 (by omega)
  refine lv_istore_n (lv' := [(1, .int x2), (0, .ref a0)]) hx hb gX12_forget_0.2.2.2.2.1 rfl hl (by decide) rfl (fun ls hl => ?_)
  refine lv_aload_n hx hb gX12_forget_0.2.2.2.2.2.1 rfl (lv_at hl 1 rfl) ?_
  refine th_getK hC cf_X12 hB.1 h0 ro_46 rfl (j := 2) (by decide) mb1 kf_X12_28 gX12_forget_0.2.2.2.2.2.2.1 ?_
  refine lv_bipush (v := 70) hx hb gX12_forget_0.2.2.2.2.2.2.2 (by decide) ?_
  refine lv_iconst (v := 0) hx hb gX12_forget_1.1 (by decide) ?_
  have hIo := hB.1
  refine th_iastF hC hB hb1 (Or.inl hb1) ro_48 rfl (by decide) tk_70 (by omega) (by omega) (by rw [(ek_seen (by omega) (by omega))]; exact (th_sI (by decide) (by decide))) gX12_forget_1.2.1 (fun H15 locs hB hf15 hst15 => ?_)
  have hf := hf15
  have mm3 := (th_F_o hf h0 ro_46 (j := 2) (by decide) (by decide)).trans mb1
  have hRC := th_RC_F hB.1 hR.1 hf (th_T_s hb1 ro_48 hst15) (by decide)
  have fv_H15_33 : mo_f G H15 a0 33 = mo_f G H0 a0 33 := mo_f_F hf h0 (by decide) (by decide)
  have vv_H15_3 : mo_v G H15 a0 3 = mo_v G H0 a0 3 := mo_v_F (r := 49) hB.1 hf h0 rfl ro_49 (by decide) (by decide)
  have vv_H15_4 : mo_v G H15 a0 4 = mo_v G H0 a0 4 := mo_v_F (r := 50) hB.1 hf h0 rfl ro_50 (by decide) (by decide)
  have vv_H15_31 : mo_v G H15 a0 31 = mo_v G H0 a0 31 := mo_v_F (r := 61) hB.1 hf h0 rfl ro_61 (by decide) (by decide)
  replace hF := hF.trans (dv_bn (dv_stoI hIo hB.1 hU hb1 ow_48 (i := 70) hst15 tk_0 (by omega)))
  have vs15 : mo_v G H15 a0 2 = mo_u (mo_v G H0 a0 2) 70 0 := by rw [show (70 : Int) = 70 by omega]; exact mo_v_st h0 hb1 (by decide) mb1 hst15 (by omega)
  have hR : th_RN a0 G Γ H15 := ⟨hRC, by rw [vs15, vv_H15_3, vv_H15_4, vv_H15_31, fv_H15_33]; exact mo_ok_u hR.2 (by omega)⟩
  refine lv_iload_n hx hb gX12_forget_1.2.2.1 rfl (lv_at hl 0 rfl) ?_
  exact th_iret hC hH hr hlocks rfl hB.2.1 ⟨_, rfl, hB.1, hB.2.2, hR, (hF0.symm.trans hF)⟩ gX12_forget_1.2.2.2

set_option maxHeartbeats 4000000 in
set_option maxRecDepth 100000 in
theorem c_X12_laysAside (l : Launch) (G : th_G) (Γ : th_Ga) (H0 : Heap) (hI : th_I G Γ H0) (hR : th_RC G Γ H0) (hU : dv_U Γ) (a0 : Nat) (h0 : Γ a0 = (46, 0)) (p1 : Int32) (f1 : 0 ≤ p1.toInt) (g1 : p1.toInt ≤ 1) : Met l yX12_laysAside (.code yX12_laysAside cX12_laysAside 3 (none) :: th_tb) ({ frames := 0, cells := 0, slots := 0, locals := 0 } : Room) (th_P [.ref a0, .int p1] G H0) (th_Q (fun (v : Option Value) (H1 : Heap) => v = none ∧ th_I G Γ H1 ∧ th_F G Γ [(51, 0)] H0 H1 ∧ th_RC G Γ H1 ∧ (∀ i : Int, 0 ≤ i → i < 29 → mo_v G H1 a0 5 (29 * p1.toInt + i) = mo_v G H0 a0 2 i) ∧ (f_X12_laysAside (dv G Γ H0) (a0 : Int) p1.toInt = (dv G Γ H1, 0))) G) 0 0 (fun q => G.1.2.2 ≤ q) := by
  refine th_met RX12 (by decide) rfl (Nat.le_of_ble_eq_true rfl) ?_
  intro p e s m below meth c hC hH hr hlocks hnm ls hl
  have hx := hC.1
  have hb := hC.2.1
  have hB : th_B G Γ Γ [(51, 0)] H0 H0 [] := ⟨hI, va_S.rf, th_F_rf⟩
  have hl : lv_has ls 3 [(0, .ref a0), (1, .int p1)] := hl
  have lp1 := ti_lo p1; have up1 := ti_hi p1
  obtain ⟨F, hF0⟩ : ∃ F, F = f_X12_laysAside (dv G Γ H0) ((a0 : Int)) (p1.toInt) := ⟨_, rfl⟩
  have hF := hF0.trans (f_X12_laysAside.eq_1 (dv G Γ H0) ((a0 : Int)) (p1.toInt))
  refine lv_iconst (v := 0) hx hb gX12_laysAside_0.1 (by decide) ?_
  refine lv_istore_n (lv' := [(2, .int 0), (0, .ref a0), (1, .int p1)]) hx hb gX12_laysAside_0.2.1 rfl hl (by decide) rfl (fun ls hl => ?_)
  have lp2 : ∀ (n2 : Nat) (H2 : Heap) (locs : List Loc) (ls : Array Slot) (j2_2 : Int32), th_B G Γ Γ [(51, 0)] H0 H2 locs → th_RC G Γ H2 → lv_has ls 3 [(0, .ref a0), (1, .int p1), (2, .int j2_2)] → F = dv_lp f_X12_laysAside_2b (dv G Γ H2, (a0 : Int), p1.toInt, j2_2.toInt) → 0 ≤ j2_2.toInt → j2_2.toInt ≤ 29 → (∀ i : Int, 0 ≤ i → i < j2_2.toInt → mo_v G H2 a0 5 (29 * p1.toInt + i) = mo_v G H0 a0 2 i) → (2147483648 : Int) - j2_2.toInt ≤ (n2 : Int) → W p l e ({ frames := 0, cells := 0, slots := 0, locals := 0 } : Room) s m ([.ref a0, .int p1] : List Value).toArray below meth c H2 locs 0 0 (MQ below (th_Q (fun (v : Option Value) (H1 : Heap) => v = none ∧ th_I G Γ H1 ∧ th_F G Γ [(51, 0)] H0 H1 ∧ th_RC G Γ H1 ∧ (∀ i : Int, 0 ≤ i → i < 29 → mo_v G H1 a0 5 (29 * p1.toInt + i) = mo_v G H0 a0 2 i) ∧ (f_X12_laysAside (dv G Γ H0) (a0 : Int) p1.toInt = (dv G Γ H1, 0))) G) ([.ref a0, .int p1] : List Value).toArray s 0 0 (fun q => G.1.2.2 ≤ q)) (F0 m 2 ls []) := by
    intro n2
    induction n2 with
    | zero => intro H2 locs ls j2_2 hB hR hl hF g2_0 g2_1 g2_2 hm2; exact absurd hm2 (by have := ti_hi j2_2; omega)
    | succ n2 ih2 =>
      intro H2 locs ls j2_2 hB hR hl hF g2_0 g2_1 g2_2 hm2
      have lj2_2 := ti_lo j2_2; have uj2_2 := ti_hi j2_2
      have vw_H2_2 : mo_v G H2 a0 2 = mo_v G H0 a0 2 := mo_v_F (r := 48) hB.1 hB.2.2 h0 rfl ro_48 (by decide) (by decide)
      have hm2 : (2147483648 : Int) - j2_2.toInt ≤ (n2 : Int) + 1 := by omega
      replace hF := hF.trans (dv_lp_eq)
      replace hF := hF.trans (congrArg (dv_k f_X12_laysAside_2b) (f_X12_laysAside_2c.eq_1 (dv G Γ H2) ((a0 : Int)) (p1.toInt) (j2_2.toInt)))
      refine lv_iload_n hx hb gX12_laysAside_0.2.2.1 rfl (lv_at hl 2 rfl) ?_
      refine lv_bipush (v := 29) hx hb gX12_laysAside_0.2.2.2.1 (by decide) ?_
      refine tr_icmp_ge (tgt := 31) hx hb gX12_laysAside_0.2.2.2.2.1 (by decide) (Eq.refl _) tk_29 (fun c5 => ?_) (fun c5 => ?_)
      · replace hF := hF.trans (congrArg (dv_k f_X12_laysAside_2b) (if_pos c5))
        replace hF := hF.trans (dv_kr)
        exact th_vret hC hH hr hlocks hB.2.1 ⟨rfl, hB.1, hB.2.2, hR, fun i a9 b9 => g2_2 i a9 (by omega), (hF0.symm.trans hF)⟩ gX12_laysAside_2.2.2.2
      · replace hF := hF.trans (congrArg (dv_k f_X12_laysAside_2b) (if_neg (Int.not_le.mpr c5)))
        refine lv_aload_n hx hb gX12_laysAside_0.2.2.2.2.2.1 rfl (lv_at hl 0 rfl) ?_
        refine th_getO (j := 5) (r2 := 51) hC cf_X12 hB.1 h0 ro_46 rfl rfl kf_X12_38 gX12_laysAside_0.2.2.2.2.2.2.1 (fun b1 mb1 hb1 => ?_)
        have sb1 := (th_F_o hB.2.2 h0 ro_46 (j := 5) (by decide) (by decide)).symm.trans mb1
        refine lv_bipush (v := 29) hx hb gX12_laysAside_0.2.2.2.2.2.2.2 (by decide) ?_
        refine lv_iload_n hx hb gX12_laysAside_1.1 rfl (lv_at hl 1 rfl) ?_
        refine tr_imul hx hb gX12_laysAside_1.2.1 tk_29 (Eq.refl _) (by omega) (by omega) (fun x2 ex2 => ?_)
        replace hF := hF.trans (congrArg (dv_k f_X12_laysAside_2b) (dv_bn (ex2.symm)))
        refine lv_iload_n hx hb gX12_laysAside_1.2.2.1 rfl (lv_at hl 2 rfl) ?_
        refine tr_iadd hx hb gX12_laysAside_1.2.2.2.1 (Eq.refl _) (Eq.refl _) (by omega) (by omega) (fun x3 ex3 => ?_)
        replace hF := hF.trans (congrArg (dv_k f_X12_laysAside_2b) (dv_bn (ex3.symm)))
        refine lv_aload_n hx hb gX12_laysAside_1.2.2.2.2.1 rfl (lv_at hl 0 rfl) ?_
        refine th_getO (j := 2) (r2 := 48) hC cf_X12 hB.1 h0 ro_46 rfl rfl kf_X12_28 gX12_laysAside_1.2.2.2.2.2.1 (fun b4 mb4 hb4 => ?_)
        have sb4 := (th_F_o hB.2.2 h0 ro_46 (j := 2) (by decide) (by decide)).symm.trans mb4
        refine lv_iload_n hx hb gX12_laysAside_1.2.2.2.2.2.2.1 rfl (lv_at hl 2 rfl) ?_
        refine th_ialdF hC hB.1 hb4 ro_48 rfl (Eq.refl _) (by omega) (by omega) (ek_a (by omega) (by omega)) gX12_laysAside_1.2.2.2.2.2.2.2 (fun x5 mx5 lx5 ux5 => ?_)
        replace hF := hF.trans (congrArg (dv_k f_X12_laysAside_2b) (dv_bn (dv_aldI hB.1 hU hb4 ow_48 (z := j2_2.toInt) mx5 (by omega))))
        have vgx5 : mo_v G H0 a0 2 j2_2.toInt = x5.toInt := by rw [← (mo_v_F (r := 48) hB.1 hB.2.2 h0 rfl ro_48 (by decide) (by decide) : mo_v G H2 a0 2 = _)]; rw [show (j2_2.toInt : Int) = j2_2.toInt by omega]; exact mo_vat mb4 mx5 (by omega)
        have hIo := hB.1
        refine th_iastF hC hB hb1 (Or.inl hb1) ro_51 rfl (by decide) (Eq.refl _) (by omega) (by omega) th_sIa gX12_laysAside_2.1 (fun H24 locs hB hf24 hst24 => ?_)
        have hf := hf24
        have mm6 := (th_F_o hf h0 ro_46 (j := 5) (by decide) (by decide)).trans mb1
        have mm7 := (th_F_o hf h0 ro_46 (j := 2) (by decide) (by decide)).trans mb4
        have hR := th_RC_F hB.1 hR hf (th_T_s hb1 ro_51 hst24) (by decide)
        have vv_H24_2 : mo_v G H24 a0 2 = mo_v G H2 a0 2 := mo_v_F (r := 48) hB.1 hf h0 rfl ro_48 (by decide) (by decide)
        replace hF := hF.trans (congrArg (dv_k f_X12_laysAside_2b) (dv_bn (dv_stoI hIo hB.1 hU hb1 ow_51 (i := x3.toInt) hst24 (Eq.refl _) (by omega))))
        have vs24 : mo_v G H24 a0 5 = mo_u (mo_v G H2 a0 5) ((29 * p1.toInt) + j2_2.toInt) x5.toInt := by rw [show (((29 * p1.toInt) + j2_2.toInt) : Int) = x3.toInt by omega]; exact mo_v_st h0 hb1 (by decide) mb1 hst24 (by omega)
        refine tr_iinc (fun x8 => [(2, .int x8), (0, .ref a0), (1, .int p1)]) hx hb gX12_laysAside_2.2.1 hl (k := 2) rfl (Eq.refl _) tk_1 (by omega) (by omega) (by decide) (fun _ => rfl) (fun x8 ls ex8 hl => ?_)
        replace hF := hF.trans (congrArg (dv_k f_X12_laysAside_2b) (dv_bn (ex8.symm)))
        refine lv_goto (tgt := 2) hx hb gX12_laysAside_2.2.2.1 (by decide) ?_
        replace hF := hF.trans (dv_kl)
        exact ih2 H24 locs ls x8 hB hR (lv_sub hl [1, 2, 0] rfl) hF (by omega) (by omega) (fun i a9 b9 => by rw [vs24]; by_cases q9 : i = j2_2.toInt; rw [mo_us (by omega), q9, ← vgx5]; rw [mo_un (by omega)]; exact g2_2 i a9 (by omega)) (by omega)
  exact lp2 ((2147483648 : Int) - (0)).toNat H0 [] ls 0 hB hR (lv_sub hl [1, 2, 0] rfl) (by rw [tk_0]; exact hF) (by decide) (by decide) (fun i a9 b9 => by have w0 := tk_0; omega) (by have w0 := tk_0; omega)

set_option maxHeartbeats 4000000 in
set_option maxRecDepth 100000 in
theorem c_X12_takesBack (l : Launch) (G : th_G) (Γ : th_Ga) (H0 : Heap) (hI : th_I G Γ H0) (hU : dv_U Γ) (a0 : Nat) (h0 : Γ a0 = (46, 0)) (hR : th_RE a0 G Γ H0) (p1 : Int32) (f1 : 0 ≤ p1.toInt) (g1 : p1.toInt ≤ 1) : Met l yX12_takesBack (.code yX12_takesBack cX12_takesBack 3 (none) :: th_tb) ({ frames := 0, cells := 0, slots := 0, locals := 0 } : Room) (th_P [.ref a0, .int p1] G H0) (th_Q (fun (v : Option Value) (H1 : Heap) => v = none ∧ th_I G Γ H1 ∧ th_F G Γ [(48, 0)] H0 H1 ∧ th_RE a0 G Γ H1 ∧ (∀ i : Int, mo_v G H1 a0 2 i = if 0 ≤ i ∧ i < 29 then mo_v G H0 a0 5 (29 * p1.toInt + i) else mo_v G H0 a0 2 i) ∧ (f_X12_takesBack (dv G Γ H0) (a0 : Int) p1.toInt = (dv G Γ H1, 0))) G) 0 0 (fun q => G.1.2.2 ≤ q) := by
  refine th_met RX12 (by decide) rfl (Nat.le_of_ble_eq_true rfl) ?_
  intro p e s m below meth c hC hH hr hlocks hnm ls hl
  have hx := hC.1
  have hb := hC.2.1
  have hB : th_B G Γ Γ [(48, 0)] H0 H0 [] := ⟨hI, va_S.rf, th_F_rf⟩
  have hl : lv_has ls 3 [(0, .ref a0), (1, .int p1)] := hl
  have lp1 := ti_lo p1; have up1 := ti_hi p1
  obtain ⟨F, hF0⟩ : ∃ F, F = f_X12_takesBack (dv G Γ H0) ((a0 : Int)) (p1.toInt) := ⟨_, rfl⟩
  have hF := hF0.trans (f_X12_takesBack.eq_1 (dv G Γ H0) ((a0 : Int)) (p1.toInt))
  refine lv_iconst (v := 0) hx hb gX12_takesBack_0.1 (by decide) ?_
  refine lv_istore_n (lv' := [(2, .int 0), (0, .ref a0), (1, .int p1)]) hx hb gX12_takesBack_0.2.1 rfl hl (by decide) rfl (fun ls hl => ?_)
  have lp2 : ∀ (n2 : Nat) (H2 : Heap) (locs : List Loc) (ls : Array Slot) (j2_2 : Int32), th_B G Γ Γ [(48, 0)] H0 H2 locs → th_RE a0 G Γ H2 → lv_has ls 3 [(0, .ref a0), (1, .int p1), (2, .int j2_2)] → F = dv_lp f_X12_takesBack_2b (dv G Γ H2, (a0 : Int), p1.toInt, j2_2.toInt) → 0 ≤ j2_2.toInt → j2_2.toInt ≤ 29 → (∀ i : Int, mo_v G H2 a0 2 i = if 0 ≤ i ∧ i < j2_2.toInt then mo_v G H0 a0 5 (29 * p1.toInt + i) else mo_v G H0 a0 2 i) → (2147483648 : Int) - j2_2.toInt ≤ (n2 : Int) → W p l e ({ frames := 0, cells := 0, slots := 0, locals := 0 } : Room) s m ([.ref a0, .int p1] : List Value).toArray below meth c H2 locs 0 0 (MQ below (th_Q (fun (v : Option Value) (H1 : Heap) => v = none ∧ th_I G Γ H1 ∧ th_F G Γ [(48, 0)] H0 H1 ∧ th_RE a0 G Γ H1 ∧ (∀ i : Int, mo_v G H1 a0 2 i = if 0 ≤ i ∧ i < 29 then mo_v G H0 a0 5 (29 * p1.toInt + i) else mo_v G H0 a0 2 i) ∧ (f_X12_takesBack (dv G Γ H0) (a0 : Int) p1.toInt = (dv G Γ H1, 0))) G) ([.ref a0, .int p1] : List Value).toArray s 0 0 (fun q => G.1.2.2 ≤ q)) (F0 m 2 ls []) := by
    intro n2
    induction n2 with
    | zero => intro H2 locs ls j2_2 hB hR hl hF g2_0 g2_1 g2_2 hm2; exact absurd hm2 (by have := ti_hi j2_2; omega)
    | succ n2 ih2 =>
      intro H2 locs ls j2_2 hB hR hl hF g2_0 g2_1 g2_2 hm2
      have lj2_2 := ti_lo j2_2; have uj2_2 := ti_hi j2_2
      have vw_H2_5 : mo_v G H2 a0 5 = mo_v G H0 a0 5 := mo_v_F (r := 51) hB.1 hB.2.2 h0 rfl ro_51 (by decide) (by decide)
      have hm2 : (2147483648 : Int) - j2_2.toInt ≤ (n2 : Int) + 1 := by omega
      replace hF := hF.trans (dv_lp_eq)
      replace hF := hF.trans (congrArg (dv_k f_X12_takesBack_2b) (f_X12_takesBack_2c.eq_1 (dv G Γ H2) ((a0 : Int)) (p1.toInt) (j2_2.toInt)))
      refine lv_iload_n hx hb gX12_takesBack_0.2.2.1 rfl (lv_at hl 2 rfl) ?_
      refine lv_bipush (v := 29) hx hb gX12_takesBack_0.2.2.2.1 (by decide) ?_
      refine tr_icmp_ge (tgt := 31) hx hb gX12_takesBack_0.2.2.2.2.1 (by decide) (Eq.refl _) tk_29 (fun c5 => ?_) (fun c5 => ?_)
      · replace hF := hF.trans (congrArg (dv_k f_X12_takesBack_2b) (if_pos c5))
        replace hF := hF.trans (dv_kr)
        exact th_vret hC hH hr hlocks hB.2.1 ⟨rfl, hB.1, hB.2.2, hR, fun i => by have q9 := g2_2 i; rw [show j2_2.toInt = 29 by omega] at q9; exact q9, (hF0.symm.trans hF)⟩ gX12_takesBack_2.2.2.2
      · replace hF := hF.trans (congrArg (dv_k f_X12_takesBack_2b) (if_neg (Int.not_le.mpr c5)))
        refine lv_aload_n hx hb gX12_takesBack_0.2.2.2.2.2.1 rfl (lv_at hl 0 rfl) ?_
        refine th_getO (j := 2) (r2 := 48) hC cf_X12 hB.1 h0 ro_46 rfl rfl kf_X12_28 gX12_takesBack_0.2.2.2.2.2.2.1 (fun b1 mb1 hb1 => ?_)
        have sb1 := (th_F_o hB.2.2 h0 ro_46 (j := 2) (by decide) (by decide)).symm.trans mb1
        refine lv_iload_n hx hb gX12_takesBack_0.2.2.2.2.2.2.2 rfl (lv_at hl 2 rfl) ?_
        refine lv_aload_n hx hb gX12_takesBack_1.1 rfl (lv_at hl 0 rfl) ?_
        refine th_getO (j := 5) (r2 := 51) hC cf_X12 hB.1 h0 ro_46 rfl rfl kf_X12_38 gX12_takesBack_1.2.1 (fun b2 mb2 hb2 => ?_)
        have sb2 := (th_F_o hB.2.2 h0 ro_46 (j := 5) (by decide) (by decide)).symm.trans mb2
        refine lv_bipush (v := 29) hx hb gX12_takesBack_1.2.2.1 (by decide) ?_
        refine lv_iload_n hx hb gX12_takesBack_1.2.2.2.1 rfl (lv_at hl 1 rfl) ?_
        refine tr_imul hx hb gX12_takesBack_1.2.2.2.2.1 tk_29 (Eq.refl _) (by omega) (by omega) (fun x3 ex3 => ?_)
        replace hF := hF.trans (congrArg (dv_k f_X12_takesBack_2b) (dv_bn (ex3.symm)))
        refine lv_iload_n hx hb gX12_takesBack_1.2.2.2.2.2.1 rfl (lv_at hl 2 rfl) ?_
        refine tr_iadd hx hb gX12_takesBack_1.2.2.2.2.2.2.1 (Eq.refl _) (Eq.refl _) (by omega) (by omega) (fun x4 ex4 => ?_)
        replace hF := hF.trans (congrArg (dv_k f_X12_takesBack_2b) (dv_bn (ex4.symm)))
        refine th_ialdF hC hB.1 hb2 ro_51 rfl (Eq.refl _) (by omega) (by omega) rfl gX12_takesBack_1.2.2.2.2.2.2.2 (fun x5 mx5 lx5 ux5 => ?_)
        replace hF := hF.trans (congrArg (dv_k f_X12_takesBack_2b) (dv_bn (dv_aldI hB.1 hU hb2 ow_51 (z := x4.toInt) mx5 (by omega))))
        have vgx5 : mo_v G H0 a0 5 ((29 * p1.toInt) + j2_2.toInt) = x5.toInt := by rw [← (mo_v_F (r := 51) hB.1 hB.2.2 h0 rfl ro_51 (by decide) (by decide) : mo_v G H2 a0 5 = _)]; rw [show (((29 * p1.toInt) + j2_2.toInt) : Int) = x4.toInt by omega]; exact mo_vat mb2 mx5 (by omega)
        have hIo := hB.1
        refine th_iastF hC hB hb1 (Or.inl hb1) ro_48 rfl (by decide) (Eq.refl _) (by omega) (by omega) (by rw [(ek_a (by omega) (by omega))]; exact th_sIa) gX12_takesBack_2.1 (fun H24 locs hB hf24 hst24 => ?_)
        have hf := hf24
        have mm6 := (th_F_o hf h0 ro_46 (j := 2) (by decide) (by decide)).trans mb1
        have mm7 := (th_F_o hf h0 ro_46 (j := 5) (by decide) (by decide)).trans mb2
        have hRC := th_RC_F hB.1 hR.1 hf (th_T_s hb1 ro_48 hst24) (by decide)
        have vv_H24_5 : mo_v G H24 a0 5 = mo_v G H2 a0 5 := mo_v_F (r := 51) hB.1 hf h0 rfl ro_51 (by decide) (by decide)
        replace hF := hF.trans (congrArg (dv_k f_X12_takesBack_2b) (dv_bn (dv_stoI hIo hB.1 hU hb1 ow_48 (i := j2_2.toInt) hst24 (Eq.refl _) (by omega))))
        have vs24 : mo_v G H24 a0 2 = mo_u (mo_v G H2 a0 2) j2_2.toInt x5.toInt := by rw [show (j2_2.toInt : Int) = j2_2.toInt by omega]; exact mo_v_st h0 hb1 (by decide) mb1 hst24 (by omega)
        have hR := th_RE_st hB.1 hR h0 hb1 mb1 hf24 hst24 (by omega) (by omega)
        refine tr_iinc (fun x8 => [(2, .int x8), (0, .ref a0), (1, .int p1)]) hx hb gX12_takesBack_2.2.1 hl (k := 2) rfl (Eq.refl _) tk_1 (by omega) (by omega) (by decide) (fun _ => rfl) (fun x8 ls ex8 hl => ?_)
        replace hF := hF.trans (congrArg (dv_k f_X12_takesBack_2b) (dv_bn (ex8.symm)))
        refine lv_goto (tgt := 2) hx hb gX12_takesBack_2.2.2.1 (by decide) ?_
        replace hF := hF.trans (dv_kl)
        exact ih2 H24 locs ls x8 hB hR (lv_sub hl [1, 2, 0] rfl) hF (by omega) (by omega) (fun i => by rw [vs24]; by_cases q9 : i = j2_2.toInt; rw [mo_us q9, if_pos (by omega), q9, ← vgx5]; rw [mo_un q9, g2_2]; by_cases q8 : 0 ≤ i ∧ i < j2_2.toInt; rw [if_pos q8, if_pos (by omega)]; rw [if_neg q8, if_neg (by omega)]) (by omega)
  exact lp2 ((2147483648 : Int) - (0)).toNat H0 [] ls 0 hB hR (lv_sub hl [1, 2, 0] rfl) (by rw [tk_0]; exact hF) (by decide) (by decide) (fun i => by rw [if_neg (by have w0 := tk_0; omega)]) (by have w0 := tk_0; omega)
end
section
set_option maxHeartbeats 4000000 in
set_option maxRecDepth 100000 in
theorem c_X12_keeps (l : Launch) (G : th_G) (Γ : th_Ga) (H0 : Heap) (hI : th_I G Γ H0) (hU : dv_U Γ) (a0 : Nat) (h0 : Γ a0 = (46, 0)) (hR : th_RK a0 G Γ H0) (p1 : Int32) : Met l yX12_keeps (.code yX12_keeps cX12_keeps 4 (none) :: th_tb) ({ frames := 0, cells := 0, slots := 0, locals := 0 } : Room) (th_P [.ref a0, .int p1] G H0) (th_Q (fun (v : Option Value) (H1 : Heap) => v = none ∧ th_I G Γ H1 ∧ th_F G Γ [(61, 0), (46, 33)] H0 H1 ∧ th_RK a0 G Γ H1 ∧ (mo_kp (mo_v G H0 a0 2) (mo_v G H0 a0 31) (mo_v G H1 a0 31) (mo_f G H0 a0 33) (mo_f G H1 a0 33)) ∧ (f_X12_keeps (dv G Γ H0) (a0 : Int) p1.toInt = (dv G Γ H1, 0))) G) 0 0 (fun q => G.1.2.2 ≤ q) := by
  refine th_met RX12 (by decide) rfl (Nat.le_of_ble_eq_true rfl) ?_
  intro p e s m below meth c hC hH hr hlocks hnm ls hl
  have hx := hC.1
  have hb := hC.2.1
  have hB : th_B G Γ Γ [(61, 0), (46, 33)] H0 H0 [] := ⟨hI, va_S.rf, th_F_rf⟩
  have hl : lv_has ls 4 [(0, .ref a0), (1, .int p1)] := hl
  have lp1 := ti_lo p1; have up1 := ti_hi p1
  obtain ⟨F, hF0⟩ : ∃ F, F = f_X12_keeps (dv G Γ H0) ((a0 : Int)) (p1.toInt) := ⟨_, rfl⟩
  have hF := hF0.trans (f_X12_keeps.eq_1 (dv G Γ H0) ((a0 : Int)) (p1.toInt))
  refine lv_bipush (v := 30) hx hb gX12_keeps_0.1 (by decide) ?_
  refine lv_istore_n (lv' := [(2, .int 30), (0, .ref a0), (1, .int p1)]) hx hb gX12_keeps_0.2.1 rfl hl (by decide) rfl (fun ls hl => ?_)
  refine lv_aload_n hx hb gX12_keeps_0.2.2.1 rfl (lv_at hl 1 rfl) ?_
  refine th_getI (j := 33) hC cf_X12 hB.1 h0 ro_46 rfl rfl kf_X12_11 gX12_keeps_0.2.2.2.1 (fun x1 mx1 lx1 ux1 => ?_)
  replace hF := hF.trans (dv_bn (dv_getI h0 ro_46 (j := 33) rfl mx1 (by decide)))
  have fg2 : mo_f G H0 a0 33 = x1.toInt := mo_fat mx1
  refine lv_bipush (v := 16) hx hb gX12_keeps_0.2.2.2.2.1 (by decide) ?_
  have jn52 : ∀ (H52 : Heap) (locs : List Loc) (ls : Array Slot) , th_B G Γ Γ [(61, 0), (46, 33)] H0 H52 locs → th_RK a0 G Γ H52 → lv_has ls 4 [(2, .int 30), (0, .ref a0), (1, .int p1)] → F = f_X12_keeps_52 (dv G Γ H52) ((a0 : Int)) (p1.toInt) → (∃ sh : Int, (sh = 0 ∨ sh = 1) ∧ mo_f G H52 a0 33 + sh = mo_f G H0 a0 33 ∧ mo_f G H52 a0 33 ≤ 15 ∧ ∀ z : Int, 0 ≤ z → z < 30 * mo_f G H52 a0 33 → mo_v G H52 a0 31 z = mo_v G H0 a0 31 (z + 30 * sh)) → W p l e ({ frames := 0, cells := 0, slots := 0, locals := 0 } : Room) s m ([.ref a0, .int p1] : List Value).toArray below meth c H52 locs 0 0 (MQ below (th_Q (fun (v : Option Value) (H1 : Heap) => v = none ∧ th_I G Γ H1 ∧ th_F G Γ [(61, 0), (46, 33)] H0 H1 ∧ th_RK a0 G Γ H1 ∧ (mo_kp (mo_v G H0 a0 2) (mo_v G H0 a0 31) (mo_v G H1 a0 31) (mo_f G H0 a0 33) (mo_f G H1 a0 33)) ∧ (f_X12_keeps (dv G Γ H0) (a0 : Int) p1.toInt = (dv G Γ H1, 0))) G) ([.ref a0, .int p1] : List Value).toArray s 0 0 (fun q => G.1.2.2 ≤ q)) (F0 m 52 ls []) := by
    intro H52 locs ls hB hR hl hF g52_0
    have vw_H52_2 : mo_v G H52 a0 2 = mo_v G H0 a0 2 := mo_v_F (r := 48) hB.1 hB.2.2 h0 rfl ro_48 (by decide) (by decide)
    replace hF := hF.trans (f_X12_keeps_52.eq_1 (dv G Γ H52) ((a0 : Int)) (p1.toInt))
    refine lv_iconst (v := 0) hx hb gX12_keeps_3.2.2.2.2.2.2.2 (by decide) ?_
    obtain ⟨sh, s0, s1, s2, sz⟩ := g52_0
    refine lv_istore_n (lv' := [(3, .int 0), (2, .int 30), (0, .ref a0), (1, .int p1)]) hx hb gX12_keeps_4.1 rfl hl (by decide) rfl (fun ls hl => ?_)
    have lp54 : ∀ (n54 : Nat) (H54 : Heap) (locs : List Loc) (ls : Array Slot) (j54_3 : Int32), th_B G Γ Γ [(61, 0), (46, 33)] H0 H54 locs → th_RK a0 G Γ H54 → lv_has ls 4 [(2, .int 30), (0, .ref a0), (1, .int p1), (3, .int j54_3)] → F = dv_lp f_X12_keeps_54b (dv G Γ H54, (a0 : Int), p1.toInt, j54_3.toInt) → 0 ≤ j54_3.toInt → j54_3.toInt ≤ 29 → (∀ z : Int, 0 ≤ z → z < 30 * mo_f G H52 a0 33 → mo_v G H54 a0 31 z = mo_v G H0 a0 31 (z + 30 * sh)) → (∀ i : Int, 0 ≤ i → i < j54_3.toInt → mo_v G H54 a0 31 (30 * mo_f G H52 a0 33 + i) = mo_v G H0 a0 2 i) → mo_f G H54 a0 33 = mo_f G H52 a0 33 → (2147483648 : Int) - j54_3.toInt ≤ (n54 : Int) → W p l e ({ frames := 0, cells := 0, slots := 0, locals := 0 } : Room) s m ([.ref a0, .int p1] : List Value).toArray below meth c H54 locs 0 0 (MQ below (th_Q (fun (v : Option Value) (H1 : Heap) => v = none ∧ th_I G Γ H1 ∧ th_F G Γ [(61, 0), (46, 33)] H0 H1 ∧ th_RK a0 G Γ H1 ∧ (mo_kp (mo_v G H0 a0 2) (mo_v G H0 a0 31) (mo_v G H1 a0 31) (mo_f G H0 a0 33) (mo_f G H1 a0 33)) ∧ (f_X12_keeps (dv G Γ H0) (a0 : Int) p1.toInt = (dv G Γ H1, 0))) G) ([.ref a0, .int p1] : List Value).toArray s 0 0 (fun q => G.1.2.2 ≤ q)) (F0 m 54 ls []) := by
      intro n54
      induction n54 with
      | zero => intro H54 locs ls j54_3 hB hR hl hF g54_0 g54_1 g54_2 g54_3 g54_4 hm54; exact absurd hm54 (by have := ti_hi j54_3; omega)
      | succ n54 ih54 =>
        intro H54 locs ls j54_3 hB hR hl hF g54_0 g54_1 g54_2 g54_3 g54_4 hm54
        have lj54_3 := ti_lo j54_3; have uj54_3 := ti_hi j54_3
        have vw_H54_2 : mo_v G H54 a0 2 = mo_v G H0 a0 2 := mo_v_F (r := 48) hB.1 hB.2.2 h0 rfl ro_48 (by decide) (by decide)
        have hm54 : (2147483648 : Int) - j54_3.toInt ≤ (n54 : Int) + 1 := by omega
        replace hF := hF.trans (dv_lp_eq)
        replace hF := hF.trans (congrArg (dv_k f_X12_keeps_54b) (f_X12_keeps_54c.eq_1 (dv G Γ H54) ((a0 : Int)) (p1.toInt) (j54_3.toInt)))
        refine lv_iload_n hx hb gX12_keeps_4.2.1 rfl (lv_at hl 3 rfl) ?_
        refine lv_bipush (v := 29) hx hb gX12_keeps_4.2.2.1 (by decide) ?_
        refine tr_icmp_ge (tgt := 85) hx hb gX12_keeps_4.2.2.2.1 (by decide) (Eq.refl _) tk_29 (fun c57 => ?_) (fun c57 => ?_)
        · replace hF := hF.trans (congrArg (dv_k f_X12_keeps_54b) (if_pos c57))
          refine lv_aload_n hx hb gX12_keeps_6.2.2.2.1 rfl (lv_at hl 1 rfl) ?_
          refine th_getO (j := 31) (r2 := 61) hC cf_X12 hB.1 h0 ro_46 rfl rfl kf_X12_72 gX12_keeps_6.2.2.2.2.1 (fun b3 mb3 hb3 => ?_)
          refine lv_iload_n hx hb gX12_keeps_6.2.2.2.2.2.1 rfl (lv_at hl 0 rfl) ?_
          refine lv_aload_n hx hb gX12_keeps_6.2.2.2.2.2.2.1 rfl (lv_at hl 1 rfl) ?_
          refine th_getI (j := 33) hC cf_X12 hB.1 h0 ro_46 rfl rfl kf_X12_11 gX12_keeps_6.2.2.2.2.2.2.2 (fun x4 mx4 lx4 ux4 => ?_)
          replace hF := hF.trans (congrArg (dv_k f_X12_keeps_54b) (dv_bn (dv_getI h0 ro_46 (j := 33) rfl mx4 (by decide))))
          have fg5 : mo_f G H54 a0 33 = x4.toInt := mo_fat mx4
          refine tr_imul hx hb gX12_keeps_7.1 tk_30 (Eq.refl _) (by omega) (by omega) (fun x6 ex6 => ?_)
          replace hF := hF.trans (congrArg (dv_k f_X12_keeps_54b) (dv_bn (ex6.symm)))
          refine lv_bipush (v := 29) hx hb gX12_keeps_7.2.1 (by decide) ?_
          refine tr_iadd hx hb gX12_keeps_7.2.2.1 (Eq.refl _) tk_29 (by omega) (by omega) (fun x7 ex7 => ?_)
          replace hF := hF.trans (congrArg (dv_k f_X12_keeps_54b) (dv_bn (ex7.symm)))
          refine lv_iload_n hx hb gX12_keeps_7.2.2.2.1 rfl (lv_at hl 2 rfl) ?_
          have hIo := hB.1
          refine th_iastF hC hB hb3 (Or.inl hb3) ro_61 rfl (by decide) (Eq.refl _) (by omega) (by omega) th_sIa gX12_keeps_7.2.2.2.2.1 (fun H99 locs hB hf99 hst99 => ?_)
          have hf := hf99
          have mm8 := (th_F_o hf h0 ro_46 (j := 33) (by decide) (by decide)).trans mx4
          have hR := th_RK_F hB.1 hR h0 hf (th_T_s hb3 ro_61 hst99) (by decide)
          have fv_H99_33 : mo_f G H99 a0 33 = mo_f G H54 a0 33 := mo_f_F hf h0 (by decide) (by decide)
          have vv_H99_2 : mo_v G H99 a0 2 = mo_v G H54 a0 2 := mo_v_F (r := 48) hB.1 hf h0 rfl ro_48 (by decide) (by decide)
          replace hF := hF.trans (congrArg (dv_k f_X12_keeps_54b) (dv_bn (dv_stoI hIo hB.1 hU hb3 ow_61 (i := x7.toInt) hst99 (Eq.refl _) (by omega))))
          have vs99 : mo_v G H99 a0 31 = mo_u (mo_v G H54 a0 31) ((30 * x4.toInt) + 29) p1.toInt := by rw [show (((30 * x4.toInt) + 29) : Int) = x7.toInt by omega]; exact mo_v_st h0 hb3 (by decide) mb3 hst99 (by omega)
          refine lv_aload_n hx hb gX12_keeps_7.2.2.2.2.2.1 rfl (lv_at hl 1 rfl) ?_
          refine lv_dup hx hb gX12_keeps_7.2.2.2.2.2.2.1 rfl ?_
          refine th_getK hC cf_X12 hB.1 h0 ro_46 rfl (j := 33) (by decide) mm8 kf_X12_11 gX12_keeps_7.2.2.2.2.2.2.2 ?_
          replace hF := hF.trans (congrArg (dv_k f_X12_keeps_54b) (dv_bn (dv_getI h0 ro_46 (j := 33) rfl mm8 (by decide))))
          have fg9 : mo_f G H99 a0 33 = x4.toInt := mo_fat mm8
          refine lv_iconst (v := 1) hx hb gX12_keeps_8.1 (by decide) ?_
          refine tr_iadd hx hb gX12_keeps_8.2.1 (Eq.refl _) tk_1 (by omega) (by omega) (fun x10 ex10 => ?_)
          replace hF := hF.trans (congrArg (dv_k f_X12_keeps_54b) (dv_bn (ex10.symm)))
          refine th_put hC cf_X12 hB h0 (Or.inl h0) ro_46 rfl (j := 33) rfl (th_sI (by omega) (by omega)) (by decide) rfl rfl rfl kf_X12_11 gX12_keeps_8.2.2.1 (fun H107 locs hB hf hst107 => ?_)
          have hR := th_RK_F hB.1 hR h0 hf (th_T_s h0 ro_46 hst107) (by decide)
          have vv_H107_2 : mo_v G H107 a0 2 = mo_v G H99 a0 2 := mo_v_F (r := 48) hB.1 hf h0 rfl ro_48 (by decide) (by decide)
          have vv_H107_31 : mo_v G H107 a0 31 = mo_v G H99 a0 31 := mo_v_F (r := 61) hB.1 hf h0 rfl ro_61 (by decide) (by decide)
          replace hF := hF.trans (congrArg (dv_k f_X12_keeps_54b) (dv_bn (dv_putI hB.1 h0 ro_46 (j := 33) rfl (th_apart hC cf_X12) hst107 (Eq.refl _) (by decide))))
          have fp107 : mo_f G H107 a0 33 = x10.toInt := mo_f_St hst107
          replace hF := hF.trans (dv_kr)
          exact th_vret hC hH hr hlocks hB.2.1 ⟨rfl, hB.1, hB.2.2, hR, ⟨by omega, fun r r0 r1 => by rcases Int.lt_or_le r (mo_f G H52 a0 33) with q9 | q9; exact Or.inl ⟨r + sh, by omega, by omega, fun i i0 i1 => by rw [vv_H107_31, vs99, mo_un (by omega), g54_2 _ (by omega) (by omega)]; congr 1; omega⟩; exact Or.inr (fun i i0 i1 => by rw [vv_H107_31, vs99, mo_un (by omega), show r = mo_f G H52 a0 33 by omega]; exact g54_3 i i0 (by omega))⟩, (hF0.symm.trans hF)⟩ gX12_keeps_8.2.2.2
        · replace hF := hF.trans (congrArg (dv_k f_X12_keeps_54b) (if_neg (Int.not_le.mpr c57)))
          refine lv_aload_n hx hb gX12_keeps_4.2.2.2.2.1 rfl (lv_at hl 1 rfl) ?_
          refine th_getO (j := 31) (r2 := 61) hC cf_X12 hB.1 h0 ro_46 rfl rfl kf_X12_72 gX12_keeps_4.2.2.2.2.2.1 (fun b11 mb11 hb11 => ?_)
          have sb11 := (th_F_o hB.2.2 h0 ro_46 (j := 31) (by decide) (by decide)).symm.trans mb11
          refine lv_iload_n hx hb gX12_keeps_4.2.2.2.2.2.2.1 rfl (lv_at hl 0 rfl) ?_
          refine lv_aload_n hx hb gX12_keeps_4.2.2.2.2.2.2.2 rfl (lv_at hl 1 rfl) ?_
          refine th_getI (j := 33) hC cf_X12 hB.1 h0 ro_46 rfl rfl kf_X12_11 gX12_keeps_5.1 (fun x12 mx12 lx12 ux12 => ?_)
          replace hF := hF.trans (congrArg (dv_k f_X12_keeps_54b) (dv_bn (dv_getI h0 ro_46 (j := 33) rfl mx12 (by decide))))
          have fg13 : mo_f G H54 a0 33 = x12.toInt := mo_fat mx12
          refine tr_imul hx hb gX12_keeps_5.2.1 tk_30 (Eq.refl _) (by omega) (by omega) (fun x14 ex14 => ?_)
          replace hF := hF.trans (congrArg (dv_k f_X12_keeps_54b) (dv_bn (ex14.symm)))
          refine lv_iload_n hx hb gX12_keeps_5.2.2.1 rfl (lv_at hl 3 rfl) ?_
          refine tr_iadd hx hb gX12_keeps_5.2.2.2.1 (Eq.refl _) (Eq.refl _) (by omega) (by omega) (fun x15 ex15 => ?_)
          replace hF := hF.trans (congrArg (dv_k f_X12_keeps_54b) (dv_bn (ex15.symm)))
          refine lv_aload_n hx hb gX12_keeps_5.2.2.2.2.1 rfl (lv_at hl 1 rfl) ?_
          refine th_getO (j := 2) (r2 := 48) hC cf_X12 hB.1 h0 ro_46 rfl rfl kf_X12_28 gX12_keeps_5.2.2.2.2.2.1 (fun b16 mb16 hb16 => ?_)
          have sb16 := (th_F_o hB.2.2 h0 ro_46 (j := 2) (by decide) (by decide)).symm.trans mb16
          refine lv_iload_n hx hb gX12_keeps_5.2.2.2.2.2.2.1 rfl (lv_at hl 3 rfl) ?_
          refine th_ialdF hC hB.1 hb16 ro_48 rfl (Eq.refl _) (by omega) (by omega) (ek_a (by omega) (by omega)) gX12_keeps_5.2.2.2.2.2.2.2 (fun x17 mx17 lx17 ux17 => ?_)
          replace hF := hF.trans (congrArg (dv_k f_X12_keeps_54b) (dv_bn (dv_aldI hB.1 hU hb16 ow_48 (z := j54_3.toInt) mx17 (by omega))))
          have vgx17 : mo_v G H0 a0 2 j54_3.toInt = x17.toInt := by rw [← (mo_v_F (r := 48) hB.1 hB.2.2 h0 rfl ro_48 (by decide) (by decide) : mo_v G H54 a0 2 = _)]; rw [show (j54_3.toInt : Int) = j54_3.toInt by omega]; exact mo_vat mb16 mx17 (by omega)
          have hIo := hB.1
          refine th_iastF hC hB hb11 (Or.inl hb11) ro_61 rfl (by decide) (Eq.refl _) (by omega) (by omega) th_sIa gX12_keeps_6.1 (fun H78 locs hB hf78 hst78 => ?_)
          have hf := hf78
          have mm18 := (th_F_o hf h0 ro_46 (j := 31) (by decide) (by decide)).trans mb11
          have mm19 := (th_F_o hf h0 ro_46 (j := 33) (by decide) (by decide)).trans mx12
          have mm20 := (th_F_o hf h0 ro_46 (j := 2) (by decide) (by decide)).trans mb16
          have hR := th_RK_F hB.1 hR h0 hf (th_T_s hb11 ro_61 hst78) (by decide)
          have fv_H78_33 : mo_f G H78 a0 33 = mo_f G H54 a0 33 := mo_f_F hf h0 (by decide) (by decide)
          have vv_H78_2 : mo_v G H78 a0 2 = mo_v G H54 a0 2 := mo_v_F (r := 48) hB.1 hf h0 rfl ro_48 (by decide) (by decide)
          replace hF := hF.trans (congrArg (dv_k f_X12_keeps_54b) (dv_bn (dv_stoI hIo hB.1 hU hb11 ow_61 (i := x15.toInt) hst78 (Eq.refl _) (by omega))))
          have vs78 : mo_v G H78 a0 31 = mo_u (mo_v G H54 a0 31) ((30 * x12.toInt) + j54_3.toInt) x17.toInt := by rw [show (((30 * x12.toInt) + j54_3.toInt) : Int) = x15.toInt by omega]; exact mo_v_st h0 hb11 (by decide) mb11 hst78 (by omega)
          refine tr_iinc (fun x21 => [(3, .int x21), (2, .int 30), (0, .ref a0), (1, .int p1)]) hx hb gX12_keeps_6.2.1 hl (k := 3) rfl (Eq.refl _) tk_1 (by omega) (by omega) (by decide) (fun _ => rfl) (fun x21 ls ex21 hl => ?_)
          replace hF := hF.trans (congrArg (dv_k f_X12_keeps_54b) (dv_bn (ex21.symm)))
          refine lv_goto (tgt := 54) hx hb gX12_keeps_6.2.2.1 (by decide) ?_
          replace hF := hF.trans (dv_kl)
          exact ih54 H78 locs ls x21 hB hR (lv_sub hl [1, 2, 3, 0] rfl) hF (by omega) (by omega) (fun z a9 b9 => by rw [vs78, mo_un (by omega)]; exact g54_2 z a9 b9) (fun i a9 b9 => by rw [vs78]; by_cases q9 : i = j54_3.toInt; rw [mo_us (by omega), q9, ← vgx17]; rw [mo_un (by omega)]; exact g54_3 i a9 (by omega)) (by omega) (by omega)
    exact lp54 ((2147483648 : Int) - (0)).toNat H52 locs ls 0 hB hR (lv_sub hl [1, 2, 3, 0] rfl) (by rw [tk_0]; exact hF) (by decide) (by decide) sz (fun i a9 b9 => by have w0 := tk_0; omega) (by have w0 := tk_0; omega) (by have w0 := tk_0; omega)
  refine tr_icmp_ne (tgt := 52) hx hb gX12_keeps_0.2.2.2.2.2.1 (by decide) (Eq.refl _) tk_16 (fun c9 => ?_) (fun c9 => ?_)
  · replace hF := hF.trans (if_pos c9)
    exact jn52 H0 [] ls hB hR (lv_sub hl [0, 1, 2] rfl) hF ⟨0, Or.inl rfl, by omega, by omega, fun z a9 b9 => by congr 1; omega⟩
  · replace hF := hF.trans (if_neg (not_not_intro c9))
    refine lv_iconst (v := 0) hx hb gX12_keeps_0.2.2.2.2.2.2.1 (by decide) ?_
    refine lv_istore_n (lv' := [(3, .int 0), (2, .int 30), (0, .ref a0), (1, .int p1)]) hx hb gX12_keeps_0.2.2.2.2.2.2.2 rfl hl (by decide) rfl (fun ls hl => ?_)
    have lp14 : ∀ (n14 : Nat) (H14 : Heap) (locs : List Loc) (ls : Array Slot) (j14_3 : Int32), th_B G Γ Γ [(61, 0), (46, 33)] H0 H14 locs → th_RK a0 G Γ H14 → lv_has ls 4 [(2, .int 30), (0, .ref a0), (1, .int p1), (3, .int j14_3)] → F = dv_lp f_X12_keeps_14b (dv G Γ H14, (a0 : Int), p1.toInt, j14_3.toInt) → 0 ≤ j14_3.toInt → j14_3.toInt ≤ 450 → (∀ z : Int, 0 ≤ z → mo_v G H14 a0 31 z = if z < j14_3.toInt then mo_v G H0 a0 31 (z + 30) else mo_v G H0 a0 31 z) → mo_f G H14 a0 33 = mo_f G H0 a0 33 → th_sl H14 a0 (G.1.1.2 12 33) = .int x1 → (2147483648 : Int) - j14_3.toInt ≤ (n14 : Int) → W p l e ({ frames := 0, cells := 0, slots := 0, locals := 0 } : Room) s m ([.ref a0, .int p1] : List Value).toArray below meth c H14 locs 0 0 (MQ below (th_Q (fun (v : Option Value) (H1 : Heap) => v = none ∧ th_I G Γ H1 ∧ th_F G Γ [(61, 0), (46, 33)] H0 H1 ∧ th_RK a0 G Γ H1 ∧ (mo_kp (mo_v G H0 a0 2) (mo_v G H0 a0 31) (mo_v G H1 a0 31) (mo_f G H0 a0 33) (mo_f G H1 a0 33)) ∧ (f_X12_keeps (dv G Γ H0) (a0 : Int) p1.toInt = (dv G Γ H1, 0))) G) ([.ref a0, .int p1] : List Value).toArray s 0 0 (fun q => G.1.2.2 ≤ q)) (F0 m 14 ls []) := by
      intro n14
      induction n14 with
      | zero => intro H14 locs ls j14_3 hB hR hl hF g14_0 g14_1 g14_2 g14_3 g14_4 hm14; exact absurd hm14 (by have := ti_hi j14_3; omega)
      | succ n14 ih14 =>
        intro H14 locs ls j14_3 hB hR hl hF g14_0 g14_1 g14_2 g14_3 g14_4 hm14
        have lj14_3 := ti_lo j14_3; have uj14_3 := ti_hi j14_3
        have vw_H14_2 : mo_v G H14 a0 2 = mo_v G H0 a0 2 := mo_v_F (r := 48) hB.1 hB.2.2 h0 rfl ro_48 (by decide) (by decide)
        have hm14 : (2147483648 : Int) - j14_3.toInt ≤ (n14 : Int) + 1 := by omega
        replace hF := hF.trans (dv_lp_eq)
        replace hF := hF.trans (congrArg (dv_k f_X12_keeps_14b) (f_X12_keeps_14c.eq_1 (dv G Γ H14) ((a0 : Int)) (p1.toInt) (j14_3.toInt)))
        refine lv_iload_n hx hb gX12_keeps_1.1 rfl (lv_at hl 3 rfl) ?_
        refine lv_bipush (v := 15) hx hb gX12_keeps_1.2.1 (by decide) ?_
        refine lv_iload_n hx hb gX12_keeps_1.2.2.1 rfl (lv_at hl 0 rfl) ?_
        refine tr_imul hx hb gX12_keeps_1.2.2.2.1 tk_15 tk_30 (by omega) (by omega) (fun x22 ex22 => ?_)
        replace hF := hF.trans (congrArg (dv_k f_X12_keeps_14b) (dv_bn (ex22.symm)))
        refine tr_icmp_ge (tgt := 42) hx hb gX12_keeps_1.2.2.2.2.1 (by decide) (Eq.refl _) (Eq.refl _) (fun c19 => ?_) (fun c19 => ?_)
        · replace hF := hF.trans (congrArg (dv_k f_X12_keeps_14b) (if_pos c19))
          refine lv_aload_n hx hb gX12_keeps_3.2.1 rfl (lv_at hl 1 rfl) ?_
          refine lv_dup hx hb gX12_keeps_3.2.2.1 rfl ?_
          refine th_getK hC cf_X12 hB.1 h0 ro_46 rfl (j := 33) (by decide) g14_4 kf_X12_11 gX12_keeps_3.2.2.2.1 ?_
          replace hF := hF.trans (congrArg (dv_k f_X12_keeps_14b) (dv_bn (dv_getI h0 ro_46 (j := 33) rfl g14_4 (by decide))))
          have fg23 : mo_f G H14 a0 33 = x1.toInt := mo_fat g14_4
          refine lv_iconst (v := 1) hx hb gX12_keeps_3.2.2.2.2.1 (by decide) ?_
          refine tr_isub hx hb gX12_keeps_3.2.2.2.2.2.1 (Eq.refl _) tk_1 (by omega) (by omega) (fun x24 ex24 => ?_)
          replace hF := hF.trans (congrArg (dv_k f_X12_keeps_14b) (dv_bn (ex24.symm)))
          refine th_put hC cf_X12 hB h0 (Or.inl h0) ro_46 rfl (j := 33) rfl (th_sI (by omega) (by omega)) (by decide) rfl rfl rfl kf_X12_11 gX12_keeps_3.2.2.2.2.2.2.1 (fun H49 locs hB hf hst49 => ?_)
          have hR := th_RK_F hB.1 hR h0 hf (th_T_s h0 ro_46 hst49) (by decide)
          have vv_H49_2 : mo_v G H49 a0 2 = mo_v G H14 a0 2 := mo_v_F (r := 48) hB.1 hf h0 rfl ro_48 (by decide) (by decide)
          have vv_H49_31 : mo_v G H49 a0 31 = mo_v G H14 a0 31 := mo_v_F (r := 61) hB.1 hf h0 rfl ro_61 (by decide) (by decide)
          replace hF := hF.trans (congrArg (dv_k f_X12_keeps_14b) (dv_bn (dv_putI hB.1 h0 ro_46 (j := 33) rfl (th_apart hC cf_X12) hst49 (Eq.refl _) (by decide))))
          have fp49 : mo_f G H49 a0 33 = x24.toInt := mo_f_St hst49
          have mm25 := hst49.2.1
          replace hF := hF.trans (dv_kr)
          exact jn52 H49 locs ls hB hR (lv_sub hl [0, 1, 2] rfl) hF ⟨1, Or.inr rfl, by omega, by omega, fun z a9 b9 => by rw [vv_H49_31, g14_2 z a9, if_pos (by omega)]; congr 1⟩
        · replace hF := hF.trans (congrArg (dv_k f_X12_keeps_14b) (if_neg (Int.not_le.mpr c19)))
          refine lv_aload_n hx hb gX12_keeps_1.2.2.2.2.2.1 rfl (lv_at hl 1 rfl) ?_
          refine th_getO (j := 31) (r2 := 61) hC cf_X12 hB.1 h0 ro_46 rfl rfl kf_X12_72 gX12_keeps_1.2.2.2.2.2.2.1 (fun b26 mb26 hb26 => ?_)
          have sb26 := (th_F_o hB.2.2 h0 ro_46 (j := 31) (by decide) (by decide)).symm.trans mb26
          refine lv_iload_n hx hb gX12_keeps_1.2.2.2.2.2.2.2 rfl (lv_at hl 3 rfl) ?_
          refine lv_aload_n hx hb gX12_keeps_2.1 rfl (lv_at hl 1 rfl) ?_
          refine th_getK hC cf_X12 hB.1 h0 ro_46 rfl (j := 31) (by decide) mb26 kf_X12_72 gX12_keeps_2.2.1 ?_
          refine lv_iload_n hx hb gX12_keeps_2.2.2.1 rfl (lv_at hl 3 rfl) ?_
          refine lv_iload_n hx hb gX12_keeps_2.2.2.2.1 rfl (lv_at hl 0 rfl) ?_
          refine tr_iadd hx hb gX12_keeps_2.2.2.2.2.1 (Eq.refl _) tk_30 (by omega) (by omega) (fun x27 ex27 => ?_)
          replace hF := hF.trans (congrArg (dv_k f_X12_keeps_14b) (dv_bn (ex27.symm)))
          refine th_ialdF hC hB.1 hb26 ro_61 rfl (Eq.refl _) (by omega) (by omega) rfl gX12_keeps_2.2.2.2.2.2.1 (fun x28 mx28 lx28 ux28 => ?_)
          replace hF := hF.trans (congrArg (dv_k f_X12_keeps_14b) (dv_bn (dv_aldI hB.1 hU hb26 ow_61 (z := x27.toInt) mx28 (by omega))))
          have vgx28 : mo_v G H14 a0 31 (j14_3.toInt + 30) = x28.toInt := by rw [show ((j14_3.toInt + 30) : Int) = x27.toInt by omega]; exact mo_vat mb26 mx28 (by omega)
          have hIo := hB.1
          refine th_iastF hC hB hb26 (Or.inl hb26) ro_61 rfl (by decide) (Eq.refl _) (by omega) (by omega) th_sIa gX12_keeps_2.2.2.2.2.2.2.1 (fun H35 locs hB hf35 hst35 => ?_)
          have hf := hf35
          have mm29 := (th_F_o hf h0 ro_46 (j := 33) (by decide) (by decide)).trans g14_4
          have mm30 := (th_F_o hf h0 ro_46 (j := 31) (by decide) (by decide)).trans mb26
          have hR := th_RK_F hB.1 hR h0 hf (th_T_s hb26 ro_61 hst35) (by decide)
          have fv_H35_33 : mo_f G H35 a0 33 = mo_f G H14 a0 33 := mo_f_F hf h0 (by decide) (by decide)
          have vv_H35_2 : mo_v G H35 a0 2 = mo_v G H14 a0 2 := mo_v_F (r := 48) hB.1 hf h0 rfl ro_48 (by decide) (by decide)
          replace hF := hF.trans (congrArg (dv_k f_X12_keeps_14b) (dv_bn (dv_stoI hIo hB.1 hU hb26 ow_61 (i := j14_3.toInt) hst35 (Eq.refl _) (by omega))))
          have vs35 : mo_v G H35 a0 31 = mo_u (mo_v G H14 a0 31) j14_3.toInt x28.toInt := by rw [show (j14_3.toInt : Int) = j14_3.toInt by omega]; exact mo_v_st h0 hb26 (by decide) mb26 hst35 (by omega)
          refine tr_iinc (fun x31 => [(3, .int x31), (2, .int 30), (0, .ref a0), (1, .int p1)]) hx hb gX12_keeps_2.2.2.2.2.2.2.2 hl (k := 3) rfl (Eq.refl _) tk_1 (by omega) (by omega) (by decide) (fun _ => rfl) (fun x31 ls ex31 hl => ?_)
          replace hF := hF.trans (congrArg (dv_k f_X12_keeps_14b) (dv_bn (ex31.symm)))
          refine lv_goto (tgt := 14) hx hb gX12_keeps_3.1 (by decide) ?_
          replace hF := hF.trans (dv_kl)
          exact ih14 H35 locs ls x31 hB hR (lv_sub hl [1, 2, 3, 0] rfl) hF (by omega) (by omega) (fun z a9 => by rw [vs35]; by_cases q9 : z = j14_3.toInt; rw [mo_us q9, if_pos (by omega), q9]; have q8 := vgx28; rw [g14_2 _ (by omega), if_neg (by omega)] at q8; rw [← q8]; rw [mo_un q9, g14_2 z a9]; by_cases q8 : z < j14_3.toInt; rw [if_pos q8, if_pos (by omega)]; rw [if_neg q8, if_neg (by omega)]) (by omega) mm29 (by omega)
    exact lp14 ((2147483648 : Int) - (0)).toNat H0 [] ls 0 hB hR (lv_sub hl [1, 2, 3, 0] rfl) (by rw [tk_0]; exact hF) (by decide) (by decide) (fun z a9 => by rw [if_neg (by have w0 := tk_0; omega)]) (by have w0 := tk_0; omega) mx1 (by have w0 := tk_0; omega)

set_option maxHeartbeats 4000000 in
set_option maxRecDepth 100000 in
theorem c_X12_undo (l : Launch) (G : th_G) (Γ : th_Ga) (H0 : Heap) (hI : th_I G Γ H0) (hU : dv_U Γ) (a0 : Nat) (h0 : Γ a0 = (46, 0)) (hR : th_RN a0 G Γ H0) : Met l yX12_undo (.code yX12_undo cX12_undo 3 (some FieldType.int) :: th_tb) ({ frames := 1, cells := 0, slots := 0, locals := 21 } : Room) (th_P [.ref a0] G H0) (th_Q (fun (v : Option Value) (H1 : Heap) => ∃ r : Int32, v = some (.int r) ∧ th_I G Γ H1 ∧ th_F G Γ [(47, 0), (46, 0), (48, 0), (46, 33)] H0 H1 ∧ th_RN a0 G Γ H1 ∧ (f_X12_undo (dv G Γ H0) (a0 : Int) = (dv G Γ H1, r.toInt))) G) 0 0 (fun q => G.1.2.2 ≤ q) := by
  refine th_met RX12 (by decide) rfl (Nat.le_of_ble_eq_true rfl) ?_
  intro p e s m below meth c hC hH hr hlocks hnm ls hl
  have hx := hC.1
  have hb := hC.2.1
  have hB : th_B G Γ Γ [(47, 0), (46, 0), (48, 0), (46, 33)] H0 H0 [] := ⟨hI, va_S.rf, th_F_rf⟩
  have hl : lv_has ls 3 [(0, .ref a0)] := hl
  obtain ⟨F, hF0⟩ : ∃ F, F = f_X12_undo (dv G Γ H0) ((a0 : Int)) := ⟨_, rfl⟩
  have hF := hF0.trans (f_X12_undo.eq_1 (dv G Γ H0) ((a0 : Int)))
  refine lv_aload_n hx hb gX12_undo_0.1 rfl (lv_at hl 0 rfl) ?_
  refine th_getI (j := 33) hC cf_X12 hB.1 h0 ro_46 rfl rfl kf_X12_11 gX12_undo_0.2.1 (fun x1 mx1 lx1 ux1 => ?_)
  replace hF := hF.trans (dv_bn (dv_getI h0 ro_46 (j := 33) rfl mx1 (by decide)))
  have fg2 : mo_f G H0 a0 33 = x1.toInt := mo_fat mx1
  refine tr_if_ne (tgt := 14) hx hb gX12_undo_0.2.2.1 (by decide) (Eq.refl _) (fun c4 => ?_) (fun c4 => ?_)
  · replace hF := hF.trans (if_pos c4)
    refine lv_aload_n hx hb gX12_undo_0.2.2.2.2.2.2.2 rfl (lv_at hl 0 rfl) ?_
    have hR0 := hR
    have hR := hR.1
    refine lv_dup hx hb gX12_undo_1.1 rfl ?_
    refine th_getK hC cf_X12 hB.1 h0 ro_46 rfl (j := 33) (by decide) mx1 kf_X12_11 gX12_undo_1.2.1 ?_
    replace hF := hF.trans (dv_bn (dv_getI h0 ro_46 (j := 33) rfl mx1 (by decide)))
    have fg3 : mo_f G H0 a0 33 = x1.toInt := mo_fat mx1
    refine lv_iconst (v := 1) hx hb gX12_undo_1.2.2.1 (by decide) ?_
    refine tr_isub hx hb gX12_undo_1.2.2.2.1 (Eq.refl _) tk_1 (by omega) (by omega) (fun x4 ex4 => ?_)
    replace hF := hF.trans (dv_bn (ex4.symm))
    refine th_put hC cf_X12 hB h0 (Or.inl h0) ro_46 rfl (j := 33) rfl (th_sI (by omega) (by omega)) (by decide) rfl rfl rfl kf_X12_11 gX12_undo_1.2.2.2.2.1 (fun H21 locs hB hf hst21 => ?_)
    have hR := th_RC_F hB.1 hR hf (th_T_s h0 ro_46 hst21) (by decide)
    have vv_H21_2 : mo_v G H21 a0 2 = mo_v G H0 a0 2 := mo_v_F (r := 48) hB.1 hf h0 rfl ro_48 (by decide) (by decide)
    have vv_H21_3 : mo_v G H21 a0 3 = mo_v G H0 a0 3 := mo_v_F (r := 49) hB.1 hf h0 rfl ro_49 (by decide) (by decide)
    have vv_H21_4 : mo_v G H21 a0 4 = mo_v G H0 a0 4 := mo_v_F (r := 50) hB.1 hf h0 rfl ro_50 (by decide) (by decide)
    have vv_H21_31 : mo_v G H21 a0 31 = mo_v G H0 a0 31 := mo_v_F (r := 61) hB.1 hf h0 rfl ro_61 (by decide) (by decide)
    replace hF := hF.trans (dv_bn (dv_putI hB.1 h0 ro_46 (j := 33) rfl (th_apart hC cf_X12) hst21 (Eq.refl _) (by decide)))
    have fp21 : mo_f G H21 a0 33 = x4.toInt := mo_f_St hst21
    have mm5 := hst21.2.1
    refine lv_bipush (v := 30) hx hb gX12_undo_1.2.2.2.2.2.1 (by decide) ?_
    refine lv_aload_n hx hb gX12_undo_1.2.2.2.2.2.2.1 rfl (lv_at hl 0 rfl) ?_
    refine th_getK hC cf_X12 hB.1 h0 ro_46 rfl (j := 33) (by decide) mm5 kf_X12_11 gX12_undo_1.2.2.2.2.2.2.2 ?_
    replace hF := hF.trans (dv_bn (dv_getI h0 ro_46 (j := 33) rfl mm5 (by decide)))
    have fg6 : mo_f G H21 a0 33 = x4.toInt := mo_fat mm5
    refine tr_imul hx hb gX12_undo_2.1 tk_30 (Eq.refl _) (by omega) (by omega) (fun x7 ex7 => ?_)
    replace hF := hF.trans (dv_bn (ex7.symm))
    refine lv_istore_n (lv' := [(1, .int x7), (0, .ref a0)]) hx hb gX12_undo_2.2.1 rfl hl (by decide) rfl (fun ls hl => ?_)
    refine lv_iconst (v := 0) hx hb gX12_undo_2.2.2.1 (by decide) ?_
    refine lv_istore_n (lv' := [(2, .int 0), (1, .int x7), (0, .ref a0)]) hx hb gX12_undo_2.2.2.2.1 rfl hl (by decide) rfl (fun ls hl => ?_)
    have lp34 : ∀ (n34 : Nat) (H34 : Heap) (locs : List Loc) (ls : Array Slot) (j34_2 : Int32), th_B G Γ Γ [(47, 0), (46, 0), (48, 0), (46, 33)] H0 H34 locs → th_RC G Γ H34 → lv_has ls 3 [(1, .int x7), (0, .ref a0), (2, .int j34_2)] → F = dv_lp f_X12_undo_34b (dv G Γ H34, x7.toInt, (a0 : Int), j34_2.toInt) → 0 ≤ j34_2.toInt → j34_2.toInt ≤ 29 → (∀ i : Int, mo_v G H34 a0 2 i = if 0 ≤ i ∧ i < j34_2.toInt then mo_v G H0 a0 31 (30 * (mo_f G H0 a0 33 - 1) + i) else mo_v G H0 a0 2 i) → mo_f G H34 a0 33 = mo_f G H0 a0 33 - 1 → (2147483648 : Int) - j34_2.toInt ≤ (n34 : Int) → W p l e ({ frames := 1, cells := 0, slots := 0, locals := 21 } : Room) s m ([.ref a0] : List Value).toArray below meth c H34 locs 0 0 (MQ below (th_Q (fun (v : Option Value) (H1 : Heap) => ∃ r : Int32, v = some (.int r) ∧ th_I G Γ H1 ∧ th_F G Γ [(47, 0), (46, 0), (48, 0), (46, 33)] H0 H1 ∧ th_RN a0 G Γ H1 ∧ (f_X12_undo (dv G Γ H0) (a0 : Int) = (dv G Γ H1, r.toInt))) G) ([.ref a0] : List Value).toArray s 0 0 (fun q => G.1.2.2 ≤ q)) (F0 m 34 ls []) := by
      intro n34
      induction n34 with
      | zero => intro H34 locs ls j34_2 hB hR hl hF g34_0 g34_1 g34_2 g34_3 hm34; exact absurd hm34 (by have := ti_hi j34_2; omega)
      | succ n34 ih34 =>
        intro H34 locs ls j34_2 hB hR hl hF g34_0 g34_1 g34_2 g34_3 hm34
        have lj34_2 := ti_lo j34_2; have uj34_2 := ti_hi j34_2
        have vw_H34_3 : mo_v G H34 a0 3 = mo_v G H0 a0 3 := mo_v_F (r := 49) hB.1 hB.2.2 h0 rfl ro_49 (by decide) (by decide)
        have vw_H34_4 : mo_v G H34 a0 4 = mo_v G H0 a0 4 := mo_v_F (r := 50) hB.1 hB.2.2 h0 rfl ro_50 (by decide) (by decide)
        have vw_H34_31 : mo_v G H34 a0 31 = mo_v G H0 a0 31 := mo_v_F (r := 61) hB.1 hB.2.2 h0 rfl ro_61 (by decide) (by decide)
        have hm34 : (2147483648 : Int) - j34_2.toInt ≤ (n34 : Int) + 1 := by omega
        replace hF := hF.trans (dv_lp_eq)
        replace hF := hF.trans (congrArg (dv_k f_X12_undo_34b) (f_X12_undo_34c.eq_1 (dv G Γ H34) (x7.toInt) ((a0 : Int)) (j34_2.toInt)))
        refine lv_iload_n hx hb gX12_undo_2.2.2.2.2.1 rfl (lv_at hl 2 rfl) ?_
        refine lv_bipush (v := 29) hx hb gX12_undo_2.2.2.2.2.2.1 (by decide) ?_
        refine tr_icmp_ge (tgt := 60) hx hb gX12_undo_2.2.2.2.2.2.2.1 (by decide) (Eq.refl _) tk_29 (fun c37 => ?_) (fun c37 => ?_)
        · replace hF := hF.trans (congrArg (dv_k f_X12_undo_34b) (if_pos c37))
          refine lv_aload_n hx hb gX12_undo_4.2.2.2.1 rfl (lv_at hl 1 rfl) ?_
          have hR : th_RN a0 G Γ H34 := ⟨hR, by rw [mo_v_F (j := 3) (r := 49) hB.1 hB.2.2 h0 rfl ro_49 (by decide) (by decide), mo_v_F (j := 4) (r := 50) hB.1 hB.2.2 h0 rfl ro_50 (by decide) (by decide), mo_v_F (j := 31) (r := 61) hB.1 hB.2.2 h0 rfl ro_61 (by decide) (by decide), show mo_f G H34 a0 33 = mo_f G H0 a0 33 - 1 by omega]; exact mo_ok_un hR0.2 (by omega) (fun i a9 b9 => by rw [g34_2 i, if_pos (by omega)]) (fun i a9 => by rw [g34_2 i, if_neg (by omega)])⟩
          refine lv_aload_n hx hb gX12_undo_4.2.2.2.2.1 rfl (lv_at hl 1 rfl) ?_
          refine th_getO (j := 31) (r2 := 61) hC cf_X12 hB.1 h0 ro_46 rfl rfl kf_X12_72 gX12_undo_4.2.2.2.2.2.1 (fun b8 mb8 hb8 => ?_)
          refine lv_iload_n hx hb gX12_undo_4.2.2.2.2.2.2.1 rfl (lv_at hl 0 rfl) ?_
          refine lv_bipush (v := 29) hx hb gX12_undo_4.2.2.2.2.2.2.2 (by decide) ?_
          refine tr_iadd hx hb gX12_undo_5.1 (Eq.refl _) tk_29 (by omega) (by omega) (fun x9 ex9 => ?_)
          replace hF := hF.trans (congrArg (dv_k f_X12_undo_34b) (dv_bn (ex9.symm)))
          refine th_ialdF hC hB.1 hb8 ro_61 rfl (Eq.refl _) (by omega) (by omega) rfl gX12_undo_5.2.1 (fun x10 mx10 lx10 ux10 => ?_)
          replace hF := hF.trans (congrArg (dv_k f_X12_undo_34b) (dv_bn (dv_aldI hB.1 hU hb8 ow_61 (z := x9.toInt) mx10 (by omega))))
          have vgx10 : mo_v G H0 a0 31 ((30 * (x1.toInt - 1)) + 29) = x10.toInt := by rw [← (mo_v_F (r := 61) hB.1 hB.2.2 h0 rfl ro_61 (by decide) (by decide) : mo_v G H34 a0 31 = _)]; rw [show (((30 * (x1.toInt - 1)) + 29) : Int) = x9.toInt by omega]; exact mo_vat mb8 mx10 (by omega)
          refine th_call (th_runV (As := [.int x10]) (rest := []) hC mf_X12_good km_X12_14 im_X12_good se_X12_good (c_X12_good l G Γ H34 hB.1 hR.1 hU a0 h0 x10) rfl rfl ⟨Nat.le_of_ble_eq_true rfl, Nat.le_of_ble_eq_true rfl⟩ hB.1 h0 ro_46 rfl rfl hl.1 rfl (Nat.le_of_ble_eq_true rfl) gX12_undo_5.2.2.1 ⟨Nat.le_refl _, Nat.le_refl _⟩) hB.2.1 (fun v70 H70 locs hp hz hS => ?_)
          have hRD := hR
          obtain ⟨x11, rfl, q70_0, hI1, hf, hR, z70_0⟩ := hp
          have hR := th_RN_c hR hRD hI1 h0 hf (by decide)
          have hB := th_B_c hB hI1 hS hf (by decide)
          have fv_H70_33 : mo_f G H70 a0 33 = mo_f G H34 a0 33 := mo_f_F hf h0 (by decide) (by decide)
          have vv_H70_2 : mo_v G H70 a0 2 = mo_v G H34 a0 2 := mo_v_F (r := 48) hB.1 hf h0 rfl ro_48 (by decide) (by decide)
          have vv_H70_3 : mo_v G H70 a0 3 = mo_v G H34 a0 3 := mo_v_F (r := 49) hB.1 hf h0 rfl ro_49 (by decide) (by decide)
          have vv_H70_4 : mo_v G H70 a0 4 = mo_v G H34 a0 4 := mo_v_F (r := 50) hB.1 hf h0 rfl ro_50 (by decide) (by decide)
          have vv_H70_31 : mo_v G H70 a0 31 = mo_v G H34 a0 31 := mo_v_F (r := 61) hB.1 hf h0 rfl ro_61 (by decide) (by decide)
          replace hF := hF.trans (congrArg (dv_k f_X12_undo_34b) (dv_bn2 (z70_0)))
          refine W.eq (g2 := F0 m 73 ls [.int x11]) rfl ?_
          replace hF := hF.trans (dv_kr)
          exact th_iret hC hH hr hlocks rfl hB.2.1 ⟨_, rfl, hB.1, hB.2.2, hR, (hF0.symm.trans hF)⟩ gX12_undo_5.2.2.2
        · replace hF := hF.trans (congrArg (dv_k f_X12_undo_34b) (if_neg (Int.not_le.mpr c37)))
          refine lv_aload_n hx hb gX12_undo_2.2.2.2.2.2.2.2 rfl (lv_at hl 1 rfl) ?_
          refine th_getO (j := 2) (r2 := 48) hC cf_X12 hB.1 h0 ro_46 rfl rfl kf_X12_28 gX12_undo_3.1 (fun b12 mb12 hb12 => ?_)
          have sb12 := (th_F_o hB.2.2 h0 ro_46 (j := 2) (by decide) (by decide)).symm.trans mb12
          refine lv_iload_n hx hb gX12_undo_3.2.1 rfl (lv_at hl 2 rfl) ?_
          refine lv_aload_n hx hb gX12_undo_3.2.2.1 rfl (lv_at hl 1 rfl) ?_
          refine th_getO (j := 31) (r2 := 61) hC cf_X12 hB.1 h0 ro_46 rfl rfl kf_X12_72 gX12_undo_3.2.2.2.1 (fun b13 mb13 hb13 => ?_)
          have sb13 := (th_F_o hB.2.2 h0 ro_46 (j := 31) (by decide) (by decide)).symm.trans mb13
          refine lv_iload_n hx hb gX12_undo_3.2.2.2.2.1 rfl (lv_at hl 0 rfl) ?_
          refine lv_iload_n hx hb gX12_undo_3.2.2.2.2.2.1 rfl (lv_at hl 2 rfl) ?_
          refine tr_iadd hx hb gX12_undo_3.2.2.2.2.2.2.1 (Eq.refl _) (Eq.refl _) (by omega) (by omega) (fun x14 ex14 => ?_)
          replace hF := hF.trans (congrArg (dv_k f_X12_undo_34b) (dv_bn (ex14.symm)))
          refine th_ialdF hC hB.1 hb13 ro_61 rfl (Eq.refl _) (by omega) (by omega) rfl gX12_undo_3.2.2.2.2.2.2.2 (fun x15 mx15 lx15 ux15 => ?_)
          replace hF := hF.trans (congrArg (dv_k f_X12_undo_34b) (dv_bn (dv_aldI hB.1 hU hb13 ow_61 (z := x14.toInt) mx15 (by omega))))
          have vgx15 : mo_v G H0 a0 31 ((30 * (x1.toInt - 1)) + j34_2.toInt) = x15.toInt := by rw [← (mo_v_F (r := 61) hB.1 hB.2.2 h0 rfl ro_61 (by decide) (by decide) : mo_v G H34 a0 31 = _)]; rw [show (((30 * (x1.toInt - 1)) + j34_2.toInt) : Int) = x14.toInt by omega]; exact mo_vat mb13 mx15 (by omega)
          have hIo := hB.1
          refine th_iastF hC hB hb12 (Or.inl hb12) ro_48 rfl (by decide) (Eq.refl _) (by omega) (by omega) (by rw [(ek_a (by omega) (by omega))]; exact th_sIa) gX12_undo_4.1 (fun H53 locs hB hf53 hst53 => ?_)
          have hf := hf53
          have mm16 := (th_F_o hf h0 ro_46 (j := 2) (by decide) (by decide)).trans mb12
          have mm17 := (th_F_o hf h0 ro_46 (j := 31) (by decide) (by decide)).trans mb13
          have hR := th_RC_F hB.1 hR hf (th_T_s hb12 ro_48 hst53) (by decide)
          have fv_H53_33 : mo_f G H53 a0 33 = mo_f G H34 a0 33 := mo_f_F hf h0 (by decide) (by decide)
          have vv_H53_3 : mo_v G H53 a0 3 = mo_v G H34 a0 3 := mo_v_F (r := 49) hB.1 hf h0 rfl ro_49 (by decide) (by decide)
          have vv_H53_4 : mo_v G H53 a0 4 = mo_v G H34 a0 4 := mo_v_F (r := 50) hB.1 hf h0 rfl ro_50 (by decide) (by decide)
          have vv_H53_31 : mo_v G H53 a0 31 = mo_v G H34 a0 31 := mo_v_F (r := 61) hB.1 hf h0 rfl ro_61 (by decide) (by decide)
          replace hF := hF.trans (congrArg (dv_k f_X12_undo_34b) (dv_bn (dv_stoI hIo hB.1 hU hb12 ow_48 (i := j34_2.toInt) hst53 (Eq.refl _) (by omega))))
          have vs53 : mo_v G H53 a0 2 = mo_u (mo_v G H34 a0 2) j34_2.toInt x15.toInt := by rw [show (j34_2.toInt : Int) = j34_2.toInt by omega]; exact mo_v_st h0 hb12 (by decide) mb12 hst53 (by omega)
          refine tr_iinc (fun x18 => [(2, .int x18), (1, .int x7), (0, .ref a0)]) hx hb gX12_undo_4.2.1 hl (k := 2) rfl (Eq.refl _) tk_1 (by omega) (by omega) (by decide) (fun _ => rfl) (fun x18 ls ex18 hl => ?_)
          replace hF := hF.trans (congrArg (dv_k f_X12_undo_34b) (dv_bn (ex18.symm)))
          refine lv_goto (tgt := 34) hx hb gX12_undo_4.2.2.1 (by decide) ?_
          replace hF := hF.trans (dv_kl)
          exact ih34 H53 locs ls x18 hB hR (lv_sub hl [1, 2, 0] rfl) hF (by omega) (by omega) (fun i => by rw [vs53]; by_cases q9 : i = j34_2.toInt; rw [mo_us q9, if_pos (by omega), q9, ← vgx15]; congr 1; omega; rw [mo_un q9, g34_2]; by_cases q8 : 0 ≤ i ∧ i < j34_2.toInt; rw [if_pos q8, if_pos (by omega)]; rw [if_neg q8, if_neg (by omega)]) (by omega) (by omega)
    exact lp34 ((2147483648 : Int) - (0)).toNat H21 locs ls 0 hB hR (lv_sub hl [1, 2, 0] rfl) (by rw [tk_0]; exact hF) (by decide) (by decide) (fun i => by rw [vv_H21_2, if_neg (by have w0 := tk_0; omega)]) (by have w0 := tk_0; omega) (by have w0 := tk_0; omega)
  · replace hF := hF.trans (if_neg (not_not_intro c4))
    refine lv_aload_n hx hb gX12_undo_0.2.2.2.1 rfl (lv_at hl 0 rfl) ?_
    refine lv_bipush (v := (-3)) hx hb gX12_undo_0.2.2.2.2.1 (by decide) ?_
    refine th_call (th_runV (As := [.int (-3)]) (rest := []) hC mf_X12_refuses km_X12_109 im_X12_refuses se_X12_refuses (c_X12_refuses l G Γ H0 hB.1 hR.1 hU a0 h0 (-3) (by decide) (by decide)) rfl rfl ⟨Nat.le_of_ble_eq_true rfl, Nat.le_of_ble_eq_true rfl⟩ hB.1 h0 ro_46 rfl rfl hl.1 rfl (Nat.le_of_ble_eq_true rfl) gX12_undo_0.2.2.2.2.2.1 ⟨Nat.le_refl _, Nat.le_refl _⟩) hB.2.1 (fun v10 H10 locs hp hz hS => ?_)
    have hRD := hR
    obtain ⟨x19, rfl, q10_0, hI1, hf, hR, z10_0⟩ := hp
    have hR := th_RN_c hR hRD hI1 h0 hf (by decide)
    have hB := th_B_c hB hI1 hS hf (by decide)
    have mm20 := (th_F_o hf h0 ro_46 (j := 33) (by decide) (by decide)).trans mx1
    have fv_H10_33 : mo_f G H10 a0 33 = mo_f G H0 a0 33 := mo_f_F hf h0 (by decide) (by decide)
    have vv_H10_2 : mo_v G H10 a0 2 = mo_v G H0 a0 2 := mo_v_F (r := 48) hB.1 hf h0 rfl ro_48 (by decide) (by decide)
    have vv_H10_3 : mo_v G H10 a0 3 = mo_v G H0 a0 3 := mo_v_F (r := 49) hB.1 hf h0 rfl ro_49 (by decide) (by decide)
    have vv_H10_4 : mo_v G H10 a0 4 = mo_v G H0 a0 4 := mo_v_F (r := 50) hB.1 hf h0 rfl ro_50 (by decide) (by decide)
    have vv_H10_31 : mo_v G H10 a0 31 = mo_v G H0 a0 31 := mo_v_F (r := 61) hB.1 hf h0 rfl ro_61 (by decide) (by decide)
    have w10_0 := tk_m3
    have zf10 := z10_0
    rw [tk_m3] at zf10
    replace hF := hF.trans (dv_bn2 (zf10))
    refine W.eq (g2 := F0 m 13 ls [.int x19]) rfl ?_
    exact th_iret hC hH hr hlocks rfl hB.2.1 ⟨_, rfl, hB.1, hB.2.2, hR, (hF0.symm.trans hF)⟩ gX12_undo_0.2.2.2.2.2.2.1

set_option maxHeartbeats 4000000 in
set_option maxRecDepth 100000 in
theorem c_X12_laysKept (l : Launch) (G : th_G) (Γ : th_Ga) (H0 : Heap) (hI : th_I G Γ H0) (hU : dv_U Γ) (a0 : Nat) (h0 : Γ a0 = (46, 0)) (hR : th_RN a0 G Γ H0) (p1 : Int32) (p2 : Int32) (p3 : Int32) : Met l yX12_laysKept (.code yX12_laysKept cX12_laysKept 4 (some FieldType.int) :: th_tb) ({ frames := 53, cells := 0, slots := 0, locals := 1674 } : Room) (th_P [.ref a0, .int p1, .int p2, .int p3] G H0) (th_Q (fun (v : Option Value) (H1 : Heap) => ∃ r : Int32, v = some (.int r) ∧ (-3) ≤ r.toInt ∧ r.toInt ≤ 99 ∧ th_I G Γ H1 ∧ th_F G Γ [(48, 0), (61, 0), (46, 33), (46, 22), (46, 24), (58, 0), (46, 23), (46, 25), (59, 0)] H0 H1 ∧ th_RN a0 G Γ H1 ∧ (∀ z : Int, 29 ≤ z → mo_v G H1 a0 2 z = mo_v G H0 a0 2 z) ∧ (f_X12_laysKept (dv G Γ H0) (a0 : Int) p1.toInt p2.toInt p3.toInt = (dv G Γ H1, r.toInt))) G) 0 0 (fun q => G.1.2.2 ≤ q) := by
  refine th_met RX12 (by decide) rfl (Nat.le_of_ble_eq_true rfl) ?_
  intro p e s m below meth c hC hH hr hlocks hnm ls hl
  have hx := hC.1
  have hb := hC.2.1
  have hB : th_B G Γ Γ [(48, 0), (61, 0), (46, 33), (46, 22), (46, 24), (58, 0), (46, 23), (46, 25), (59, 0)] H0 H0 [] := ⟨hI, va_S.rf, th_F_rf⟩
  have hl : lv_has ls 4 [(0, .ref a0), (1, .int p1), (2, .int p2), (3, .int p3)] := hl
  have lp1 := ti_lo p1; have up1 := ti_hi p1
  have lp2 := ti_lo p2; have up2 := ti_hi p2
  have lp3 := ti_lo p3; have up3 := ti_hi p3
  obtain ⟨F, hF0⟩ : ∃ F, F = f_X12_laysKept (dv G Γ H0) ((a0 : Int)) (p1.toInt) (p2.toInt) (p3.toInt) := ⟨_, rfl⟩
  have hF := hF0.trans (f_X12_laysKept.eq_1 (dv G Γ H0) ((a0 : Int)) (p1.toInt) (p2.toInt) (p3.toInt))
  refine lv_iload_n hx hb gX12_laysKept_0.1 rfl (lv_at hl 2 rfl) ?_
  refine th_call (th_runS (As := [.int p2]) (rest := []) hC mf_X12_isAlong km_X12_149 st_X12_isAlong (c_X12_isAlong l G Γ H0 hB.1 hU p2) rfl rfl ⟨Nat.le_of_ble_eq_true rfl, Nat.le_of_ble_eq_true rfl⟩ rfl hl.1 rfl (Nat.le_of_ble_eq_true rfl) gX12_laysKept_0.2.1 ⟨Nat.le_refl _, Nat.le_refl _⟩) hB.2.1 (fun v1 H1 locs hp hz hS => ?_)
  obtain ⟨x1, rfl, lx1, ux1, q1_0, q1_1, rfl⟩ := hp
  have hB := th_B_s hB hS
  replace hF := hF.trans (dv_bn2 (q1_1))
  refine W.eq (g2 := F0 m 4 ls [.int x1]) rfl ?_
  refine tr_if_eq (tgt := 14) hx hb gX12_laysKept_0.2.2.1 (by decide) (Eq.refl _) (fun c4 => ?_) (fun c4 => ?_)
  · replace hF := hF.trans (if_pos c4)
    refine lv_iconst (v := (-1)) hx hb gX12_laysKept_0.2.2.2.2.2.2.1 (by decide) ?_
    exact th_iret hC hH hr hlocks rfl hB.2.1 ⟨_, rfl, by decide, by decide, hB.1, hB.2.2, hR, fun z a9 => rfl, (hF0.symm.trans (hF.trans (by rw [tk_m1])))⟩ gX12_laysKept_0.2.2.2.2.2.2.2
  · replace hF := hF.trans (if_neg c4)
    refine lv_iload_n hx hb gX12_laysKept_0.2.2.2.1 rfl (lv_at hl 3 rfl) ?_
    refine th_call (th_runS (As := [.int p3]) (rest := []) hC mf_X12_isAlong km_X12_149 st_X12_isAlong (c_X12_isAlong l G Γ H0 hB.1 hU p3) rfl rfl ⟨Nat.le_of_ble_eq_true rfl, Nat.le_of_ble_eq_true rfl⟩ rfl hl.1 rfl (Nat.le_of_ble_eq_true rfl) gX12_laysKept_0.2.2.2.2.1 ⟨Nat.le_refl _, Nat.le_refl _⟩) hB.2.1 (fun v8 H8 locs hp hz hS => ?_)
    obtain ⟨x2, rfl, lx2, ux2, q8_0, q8_1, rfl⟩ := hp
    have hB := th_B_s hB hS
    replace hF := hF.trans (dv_bn2 (q8_1))
    refine W.eq (g2 := F0 m 11 ls [.int x2]) rfl ?_
    refine tr_if_ne (tgt := 16) hx hb gX12_laysKept_0.2.2.2.2.2.1 (by decide) (Eq.refl _) (fun c11 => ?_) (fun c11 => ?_)
    · replace hF := hF.trans (if_pos c11)
      refine lv_aload_n hx hb gX12_laysKept_1.1 rfl (lv_at hl 0 rfl) ?_
      refine lv_iload_n hx hb gX12_laysKept_1.2.1 rfl (lv_at hl 1 rfl) ?_
      refine th_call (th_runV (As := [.int p1]) (rest := []) hC mf_X12_isCarpet km_X12_134 im_X12_isCarpet se_X12_isCarpet (c_X12_isCarpet l G Γ H0 hB.1 hU a0 h0 p1) rfl rfl ⟨Nat.le_of_ble_eq_true rfl, Nat.le_of_ble_eq_true rfl⟩ hB.1 h0 ro_46 rfl rfl hl.1 rfl (Nat.le_of_ble_eq_true rfl) gX12_laysKept_1.2.2.1 ⟨Nat.le_refl _, Nat.le_refl _⟩) hB.2.1 (fun v18 H18 locs hp hz hS => ?_)
      obtain ⟨x3, rfl, lx3, ux3, q18_0, q18_1, rfl⟩ := hp
      have hB := th_B_s hB hS
      replace hF := hF.trans (dv_bn2 (q18_1))
      refine W.eq (g2 := F0 m 21 ls [.int x3]) rfl ?_
      refine tr_if_ne (tgt := 27) hx hb gX12_laysKept_1.2.2.2.1 (by decide) (Eq.refl _) (fun c21 => ?_) (fun c21 => ?_)
      · replace hF := hF.trans (if_pos c21)
        refine lv_aload_n hx hb gX12_laysKept_1.2.2.2.2.2.2.1 rfl (lv_at hl 0 rfl) ?_
        refine lv_iload_n hx hb gX12_laysKept_1.2.2.2.2.2.2.2 rfl (lv_at hl 1 rfl) ?_
        refine lv_iload_n hx hb gX12_laysKept_2.1 rfl (lv_at hl 2 rfl) ?_
        refine lv_iload_n hx hb gX12_laysKept_2.2.1 rfl (lv_at hl 3 rfl) ?_
        refine th_call (th_runV (As := [.int p1, .int p2, .int p3]) (rest := []) hC mf_X12_canLay km_X12_159 im_X12_canLay se_X12_canLay (c_X12_canLay l G Γ H0 hB.1 hU a0 h0 (th_NK hR) p1 (by omega) (by omega) p2 (by omega) (by omega) p3 (by omega) (by omega) (by omega)) rfl rfl ⟨Nat.le_of_ble_eq_true rfl, Nat.le_of_ble_eq_true rfl⟩ hB.1 h0 ro_46 rfl rfl hl.1 rfl (Nat.le_of_ble_eq_true rfl) gX12_laysKept_2.2.2.1 ⟨Nat.le_refl _, Nat.le_refl _⟩) hB.2.1 (fun v31 H31 locs hp hz hS => ?_)
        have hRD := hR
        obtain ⟨x4, rfl, lx4, ux4, q31_0, hI1, hf, hR, z31_0⟩ := hp
        have hR := th_RN_c hR.1 hRD hI1 h0 hf (by decide)
        have hB := th_B_c hB hI1 hS hf (by decide)
        have fv_H31_33 : mo_f G H31 a0 33 = mo_f G H0 a0 33 := mo_f_F hf h0 (by decide) (by decide)
        have vv_H31_2 : mo_v G H31 a0 2 = mo_v G H0 a0 2 := mo_v_F (r := 48) hB.1 hf h0 rfl ro_48 (by decide) (by decide)
        have vv_H31_3 : mo_v G H31 a0 3 = mo_v G H0 a0 3 := mo_v_F (r := 49) hB.1 hf h0 rfl ro_49 (by decide) (by decide)
        have vv_H31_4 : mo_v G H31 a0 4 = mo_v G H0 a0 4 := mo_v_F (r := 50) hB.1 hf h0 rfl ro_50 (by decide) (by decide)
        have vv_H31_31 : mo_v G H31 a0 31 = mo_v G H0 a0 31 := mo_v_F (r := 61) hB.1 hf h0 rfl ro_61 (by decide) (by decide)
        replace hF := hF.trans (dv_bn2 (z31_0))
        refine W.eq (g2 := F0 m 34 ls [.int x4]) rfl ?_
        refine tr_if_ne (tgt := 40) hx hb gX12_laysKept_2.2.2.2.1 (by decide) (Eq.refl _) (fun c34 => ?_) (fun c34 => ?_)
        · replace hF := hF.trans (if_pos c34)
          refine lv_aload_n hx hb gX12_laysKept_2.2.2.2.2.2.2.1 rfl (lv_at hl 0 rfl) ?_
          refine lv_iconst (v := 0) hx hb gX12_laysKept_2.2.2.2.2.2.2.2 (by decide) ?_
          refine th_call (th_runV (As := [.int 0]) (rest := []) hC mf_X12_keeps km_X12_370 im_X12_keeps se_X12_keeps (c_X12_keeps l G Γ H31 hB.1 hU a0 h0 (th_NK hR) 0) rfl rfl ⟨Nat.le_of_ble_eq_true rfl, Nat.le_of_ble_eq_true rfl⟩ hB.1 h0 ro_46 rfl rfl hl.1 rfl (Nat.le_of_ble_eq_true rfl) gX12_laysKept_3.1 ⟨Nat.le_refl _, Nat.le_refl _⟩) hB.2.1 (fun v42 H42 locs hp hz hS => ?_)
          have hRD := hR
          obtain ⟨rfl, hI1, hf, hR, z42_0, z42_1⟩ := hp
          have hRc42 := hR
          have hR := hRD
          have hRC := hRc42.1
          have hB := th_B_c hB hI1 hS hf (by decide)
          have vv_H42_2 : mo_v G H42 a0 2 = mo_v G H31 a0 2 := mo_v_F (r := 48) hB.1 hf h0 rfl ro_48 (by decide) (by decide)
          have vv_H42_3 : mo_v G H42 a0 3 = mo_v G H31 a0 3 := mo_v_F (r := 49) hB.1 hf h0 rfl ro_49 (by decide) (by decide)
          have vv_H42_4 : mo_v G H42 a0 4 = mo_v G H31 a0 4 := mo_v_F (r := 50) hB.1 hf h0 rfl ro_50 (by decide) (by decide)
          have zf42 := z42_1
          rw [tk_0] at zf42
          replace hF := hF.trans (dv_bn2 (zf42))
          refine W.eq (g2 := F0 m 45 ls []) rfl ?_
          have hR : th_RN a0 G Γ H42 := ⟨hRC, by rw [vv_H42_2, vv_H42_3, vv_H42_4]; exact mo_ok_kp hR.2 z42_0⟩
          refine lv_aload_n hx hb gX12_laysKept_3.2.1 rfl (lv_at hl 0 rfl) ?_
          refine lv_iload_n hx hb gX12_laysKept_3.2.2.1 rfl (lv_at hl 1 rfl) ?_
          refine lv_iload_n hx hb gX12_laysKept_3.2.2.2.1 rfl (lv_at hl 2 rfl) ?_
          refine lv_iload_n hx hb gX12_laysKept_3.2.2.2.2.1 rfl (lv_at hl 3 rfl) ?_
          refine th_call (th_runV (As := [.int p1, .int p2, .int p3]) (rest := []) hC mf_X12_laysAt km_X12_373 im_X12_laysAt se_X12_laysAt (c_X12_laysAt l G Γ H42 hB.1 hU a0 h0 (th_NE hR) p1 (by omega) (by omega) p2 p3) rfl rfl ⟨Nat.le_of_ble_eq_true rfl, Nat.le_of_ble_eq_true rfl⟩ hB.1 h0 ro_46 rfl rfl hl.1 rfl (Nat.le_of_ble_eq_true rfl) gX12_laysKept_3.2.2.2.2.2.1 ⟨Nat.le_refl _, Nat.le_refl _⟩) hB.2.1 (fun v49 H49 locs hp hz hS => ?_)
          have hRD := hR
          obtain ⟨x5, rfl, lx5, ux5, hI1, hf, hR, z49_0, z49_1⟩ := hp
          have hRc49 := hR
          have hR := hRD
          have hRC := hRc49.1
          have hB := th_B_c hB hI1 hS hf (by decide)
          have fv_H49_33 : mo_f G H49 a0 33 = mo_f G H42 a0 33 := mo_f_F hf h0 (by decide) (by decide)
          have vv_H49_3 : mo_v G H49 a0 3 = mo_v G H42 a0 3 := mo_v_F (r := 49) hB.1 hf h0 rfl ro_49 (by decide) (by decide)
          have vv_H49_4 : mo_v G H49 a0 4 = mo_v G H42 a0 4 := mo_v_F (r := 50) hB.1 hf h0 rfl ro_50 (by decide) (by decide)
          have vv_H49_31 : mo_v G H49 a0 31 = mo_v G H42 a0 31 := mo_v_F (r := 61) hB.1 hf h0 rfl ro_61 (by decide) (by decide)
          replace hF := hF.trans (dv_bn2 (z49_1))
          refine W.eq (g2 := F0 m 52 ls [.int x5]) rfl ?_
          have fr := q31_0 (by omega)
          rw [← vv_H31_2, ← vv_H42_2] at fr
          have m42 : p1.toInt < mo_v G H42 a0 2 69 := by rw [vv_H42_2, vv_H31_2]; omega
          have hR : th_RN a0 G Γ H49 := ⟨hRC, by rw [vv_H49_3, vv_H49_4, vv_H49_31, fv_H49_33]; exact mo_ok_29 hR.2 (fun i hi => by rw [z49_0 i (by omega), mo_un (by omega), mo_un (by omega)]) (mo_geo_lay hR.2.1.2.1 (by omega) m42 (hR.2.1.2.2.2.2 p1.toInt (by omega) m42) fr.1 (by omega) (by omega) fr.2 z49_0)⟩
          exact th_iret hC hH hr hlocks rfl hB.2.1 ⟨_, rfl, by omega, by omega, hB.1, hB.2.2, hR, fun z a9 => by rw [z49_0 z (by omega), mo_un (by omega), mo_un (by omega), vv_H42_2, vv_H31_2], (hF0.symm.trans hF)⟩ gX12_laysKept_3.2.2.2.2.2.2
        · replace hF := hF.trans (if_neg (not_not_intro c34))
          refine lv_bipush (v := (-3)) hx hb gX12_laysKept_2.2.2.2.2.1 (by decide) ?_
          exact th_iret hC hH hr hlocks rfl hB.2.1 ⟨_, rfl, by decide, by decide, hB.1, hB.2.2, hR, fun z a9 => by rw [vv_H31_2], (hF0.symm.trans (hF.trans (by rw [tk_m3])))⟩ gX12_laysKept_2.2.2.2.2.2.1
      · replace hF := hF.trans (if_neg (not_not_intro c21))
        refine lv_bipush (v := (-2)) hx hb gX12_laysKept_1.2.2.2.2.1 (by decide) ?_
        exact th_iret hC hH hr hlocks rfl hB.2.1 ⟨_, rfl, by decide, by decide, hB.1, hB.2.2, hR, fun z a9 => rfl, (hF0.symm.trans (hF.trans (by rw [tk_m2])))⟩ gX12_laysKept_1.2.2.2.2.2.1
    · replace hF := hF.trans (if_neg (not_not_intro c11))
      refine lv_iconst (v := (-1)) hx hb gX12_laysKept_0.2.2.2.2.2.2.1 (by decide) ?_
      exact th_iret hC hH hr hlocks rfl hB.2.1 ⟨_, rfl, by decide, by decide, hB.1, hB.2.2, hR, fun z a9 => rfl, (hF0.symm.trans (hF.trans (by rw [tk_m1])))⟩ gX12_laysKept_0.2.2.2.2.2.2.2

set_option maxHeartbeats 4000000 in
set_option maxRecDepth 100000 in
theorem c_X12_rollsKept (l : Launch) (G : th_G) (Γ : th_Ga) (H0 : Heap) (hI : th_I G Γ H0) (hU : dv_U Γ) (a0 : Nat) (h0 : Γ a0 = (46, 0)) (hR : th_RN a0 G Γ H0) (p1 : Int32) : Met l yX12_rollsKept (.code yX12_rollsKept cX12_rollsKept 2 (some FieldType.int) :: th_tb) ({ frames := 2, cells := 0, slots := 0, locals := 43 } : Room) (th_P [.ref a0, .int p1] G H0) (th_Q (fun (v : Option Value) (H1 : Heap) => ∃ r : Int32, v = some (.int r) ∧ (-3) ≤ r.toInt ∧ r.toInt ≤ 144 ∧ th_I G Γ H1 ∧ th_F G Γ [(48, 0), (61, 0), (46, 33)] H0 H1 ∧ th_RN a0 G Γ H1 ∧ (∀ z : Int, 29 ≤ z → mo_v G H1 a0 2 z = mo_v G H0 a0 2 z) ∧ (f_X12_rollsKept (dv G Γ H0) (a0 : Int) p1.toInt = (dv G Γ H1, r.toInt))) G) 0 0 (fun q => G.1.2.2 ≤ q) := by
  refine th_met RX12 (by decide) rfl (Nat.le_of_ble_eq_true rfl) ?_
  intro p e s m below meth c hC hH hr hlocks hnm ls hl
  have hx := hC.1
  have hb := hC.2.1
  have hB : th_B G Γ Γ [(48, 0), (61, 0), (46, 33)] H0 H0 [] := ⟨hI, va_S.rf, th_F_rf⟩
  have hl : lv_has ls 2 [(0, .ref a0), (1, .int p1)] := hl
  have lp1 := ti_lo p1; have up1 := ti_hi p1
  obtain ⟨F, hF0⟩ : ∃ F, F = f_X12_rollsKept (dv G Γ H0) ((a0 : Int)) (p1.toInt) := ⟨_, rfl⟩
  have hF := hF0.trans (f_X12_rollsKept.eq_1 (dv G Γ H0) ((a0 : Int)) (p1.toInt))
  refine lv_aload_n hx hb gX12_rollsKept_0.1 rfl (lv_at hl 0 rfl) ?_
  refine lv_iload_n hx hb gX12_rollsKept_0.2.1 rfl (lv_at hl 1 rfl) ?_
  refine th_call (th_runV (As := [.int p1]) (rest := []) hC mf_X12_isCarpet km_X12_134 im_X12_isCarpet se_X12_isCarpet (c_X12_isCarpet l G Γ H0 hB.1 hU a0 h0 p1) rfl rfl ⟨Nat.le_of_ble_eq_true rfl, Nat.le_of_ble_eq_true rfl⟩ hB.1 h0 ro_46 rfl rfl hl.1 rfl (Nat.le_of_ble_eq_true rfl) gX12_rollsKept_0.2.2.1 ⟨Nat.le_refl _, Nat.le_refl _⟩) hB.2.1 (fun v2 H2 locs hp hz hS => ?_)
  obtain ⟨x1, rfl, lx1, ux1, q2_0, q2_1, rfl⟩ := hp
  have hB := th_B_s hB hS
  replace hF := hF.trans (dv_bn2 (q2_1))
  refine W.eq (g2 := F0 m 5 ls [.int x1]) rfl ?_
  refine tr_if_ne (tgt := 11) hx hb gX12_rollsKept_0.2.2.2.1 (by decide) (Eq.refl _) (fun c5 => ?_) (fun c5 => ?_)
  · replace hF := hF.trans (if_pos c5)
    refine lv_aload_n hx hb gX12_rollsKept_0.2.2.2.2.2.2.1 rfl (lv_at hl 0 rfl) ?_
    refine lv_iload_n hx hb gX12_rollsKept_0.2.2.2.2.2.2.2 rfl (lv_at hl 1 rfl) ?_
    refine th_call (th_runV (As := [.int p1]) (rest := []) hC mf_X12_isLaid km_X12_137 im_X12_isLaid se_X12_isLaid (c_X12_isLaid l G Γ H0 hB.1 hU a0 h0 p1 (by omega) (by omega)) rfl rfl ⟨Nat.le_of_ble_eq_true rfl, Nat.le_of_ble_eq_true rfl⟩ hB.1 h0 ro_46 rfl rfl hl.1 rfl (Nat.le_of_ble_eq_true rfl) gX12_rollsKept_1.1 ⟨Nat.le_refl _, Nat.le_refl _⟩) hB.2.1 (fun v13 H13 locs hp hz hS => ?_)
    obtain ⟨x2, rfl, lx2, ux2, q13_0, q13_1, q13_2, rfl⟩ := hp
    have hB := th_B_s hB hS
    replace hF := hF.trans (dv_bn2 (q13_2))
    refine W.eq (g2 := F0 m 16 ls [.int x2]) rfl ?_
    refine tr_if_ne (tgt := 22) hx hb gX12_rollsKept_1.2.1 (by decide) (Eq.refl _) (fun c16 => ?_) (fun c16 => ?_)
    · replace hF := hF.trans (if_pos c16)
      refine lv_aload_n hx hb gX12_rollsKept_1.2.2.2.2.1 rfl (lv_at hl 0 rfl) ?_
      refine lv_iconst (v := 1) hx hb gX12_rollsKept_1.2.2.2.2.2.1 (by decide) ?_
      refine th_call (th_runV (As := [.int 1]) (rest := []) hC mf_X12_keeps km_X12_370 im_X12_keeps se_X12_keeps (c_X12_keeps l G Γ H0 hB.1 hU a0 h0 (th_NK hR) 1) rfl rfl ⟨Nat.le_of_ble_eq_true rfl, Nat.le_of_ble_eq_true rfl⟩ hB.1 h0 ro_46 rfl rfl hl.1 rfl (Nat.le_of_ble_eq_true rfl) gX12_rollsKept_1.2.2.2.2.2.2.1 ⟨Nat.le_refl _, Nat.le_refl _⟩) hB.2.1 (fun v24 H24 locs hp hz hS => ?_)
      have hRD := hR
      obtain ⟨rfl, hI1, hf, hR, z24_0, z24_1⟩ := hp
      have hRc24 := hR
      have hR := hRD
      have hRC := hRc24.1
      have hB := th_B_c hB hI1 hS hf (by decide)
      have vv_H24_2 : mo_v G H24 a0 2 = mo_v G H0 a0 2 := mo_v_F (r := 48) hB.1 hf h0 rfl ro_48 (by decide) (by decide)
      have vv_H24_3 : mo_v G H24 a0 3 = mo_v G H0 a0 3 := mo_v_F (r := 49) hB.1 hf h0 rfl ro_49 (by decide) (by decide)
      have vv_H24_4 : mo_v G H24 a0 4 = mo_v G H0 a0 4 := mo_v_F (r := 50) hB.1 hf h0 rfl ro_50 (by decide) (by decide)
      have zf24 := z24_1
      rw [tk_1] at zf24
      replace hF := hF.trans (dv_bn2 (zf24))
      refine W.eq (g2 := F0 m 27 ls []) rfl ?_
      have hR : th_RN a0 G Γ H24 := ⟨hRC, by rw [vv_H24_2, vv_H24_3, vv_H24_4]; exact mo_ok_kp hR.2 z24_0⟩
      refine lv_aload_n hx hb gX12_rollsKept_1.2.2.2.2.2.2.2 rfl (lv_at hl 0 rfl) ?_
      refine lv_iload_n hx hb gX12_rollsKept_2.1 rfl (lv_at hl 1 rfl) ?_
      refine th_call (th_runV (As := [.int p1]) (rest := []) hC mf_X12_rolls km_X12_123 im_X12_rolls se_X12_rolls (c_X12_rolls l G Γ H24 hB.1 hU a0 h0 (th_NE hR) p1 (by omega) (by omega)) rfl rfl ⟨Nat.le_of_ble_eq_true rfl, Nat.le_of_ble_eq_true rfl⟩ hB.1 h0 ro_46 rfl rfl hl.1 rfl (Nat.le_of_ble_eq_true rfl) gX12_rollsKept_2.2.1 ⟨Nat.le_refl _, Nat.le_refl _⟩) hB.2.1 (fun v29 H29 locs hp hz hS => ?_)
      have hRD := hR
      obtain ⟨rfl, hI1, hf, hR, z29_0, z29_1⟩ := hp
      have hRc29 := hR
      have hR := hRD
      have hRC := hRc29.1
      have hB := th_B_c hB hI1 hS hf (by decide)
      have fv_H29_33 : mo_f G H29 a0 33 = mo_f G H24 a0 33 := mo_f_F hf h0 (by decide) (by decide)
      have vv_H29_3 : mo_v G H29 a0 3 = mo_v G H24 a0 3 := mo_v_F (r := 49) hB.1 hf h0 rfl ro_49 (by decide) (by decide)
      have vv_H29_4 : mo_v G H29 a0 4 = mo_v G H24 a0 4 := mo_v_F (r := 50) hB.1 hf h0 rfl ro_50 (by decide) (by decide)
      have vv_H29_31 : mo_v G H29 a0 31 = mo_v G H24 a0 31 := mo_v_F (r := 61) hB.1 hf h0 rfl ro_61 (by decide) (by decide)
      replace hF := hF.trans (dv_bn2 (z29_1))
      refine W.eq (g2 := F0 m 32 ls []) rfl ?_
      have hR : th_RN a0 G Γ H29 := ⟨hRC, by rw [z29_0, vv_H29_3, vv_H29_4, vv_H29_31, fv_H29_33]; exact mo_ok_sb hR.2 (mo_sb_ro mo_sb_rf (by omega) (by omega))⟩
      refine lv_aload_n hx hb gX12_rollsKept_2.2.2.1 rfl (lv_at hl 0 rfl) ?_
      refine th_call (th_runV (As := []) (rest := []) hC mf_X12_bareMany km_X12_323 im_X12_bareMany se_X12_bareMany (c_X12_bareMany l G Γ H29 hB.1 hU a0 h0) rfl rfl ⟨Nat.le_of_ble_eq_true rfl, Nat.le_of_ble_eq_true rfl⟩ hB.1 h0 ro_46 rfl rfl hl.1 rfl (Nat.le_of_ble_eq_true rfl) gX12_rollsKept_2.2.2.2.1 ⟨Nat.le_refl _, Nat.le_refl _⟩) hB.2.1 (fun v33 H33 locs hp hz hS => ?_)
      obtain ⟨x3, rfl, lx3, ux3, q33_0, q33_1, rfl⟩ := hp
      have hB := th_B_s hB hS
      replace hF := hF.trans (dv_bn2 (q33_1))
      refine W.eq (g2 := F0 m 36 ls [.int x3]) rfl ?_
      have b0 := mo_bare hR.2.1 (mo_many hB.1 h0).1 q33_0
      exact th_iret hC hH hr hlocks rfl hB.2.1 ⟨_, rfl, by omega, by omega, hB.1, hB.2.2, hR, fun z a9 => by rw [z29_0, mo_un (by omega), mo_un (by omega), vv_H24_2], (hF0.symm.trans hF)⟩ gX12_rollsKept_2.2.2.2.2
    · replace hF := hF.trans (if_neg (not_not_intro c16))
      refine lv_bipush (v := (-3)) hx hb gX12_rollsKept_1.2.2.1 (by decide) ?_
      exact th_iret hC hH hr hlocks rfl hB.2.1 ⟨_, rfl, by decide, by decide, hB.1, hB.2.2, hR, fun z a9 => rfl, (hF0.symm.trans (hF.trans (by rw [tk_m3])))⟩ gX12_rollsKept_1.2.2.2.1
  · replace hF := hF.trans (if_neg (not_not_intro c5))
    refine lv_bipush (v := (-2)) hx hb gX12_rollsKept_0.2.2.2.2.1 (by decide) ?_
    exact th_iret hC hH hr hlocks rfl hB.2.1 ⟨_, rfl, by decide, by decide, hB.1, hB.2.2, hR, fun z a9 => rfl, (hF0.symm.trans (hF.trans (by rw [tk_m2])))⟩ gX12_rollsKept_0.2.2.2.2.2.1

set_option maxHeartbeats 4000000 in
set_option maxRecDepth 100000 in
theorem c_X12_mirrorsKept (l : Launch) (G : th_G) (Γ : th_Ga) (H0 : Heap) (hI : th_I G Γ H0) (hU : dv_U Γ) (a0 : Nat) (h0 : Γ a0 = (46, 0)) (hR : th_RN a0 G Γ H0) : Met l yX12_mirrorsKept (.code yX12_mirrorsKept cX12_mirrorsKept 2 (some FieldType.int) :: th_tb) ({ frames := 2, cells := 0, slots := 0, locals := 43 } : Room) (th_P [.ref a0] G H0) (th_Q (fun (v : Option Value) (H1 : Heap) => ∃ r : Int32, v = some (.int r) ∧ 0 ≤ r.toInt ∧ r.toInt ≤ 9 ∧ th_I G Γ H1 ∧ th_F G Γ [(48, 0), (61, 0), (46, 33)] H0 H1 ∧ th_RN a0 G Γ H1 ∧ (∀ z : Int, 29 ≤ z → mo_v G H1 a0 2 z = mo_v G H0 a0 2 z) ∧ (f_X12_mirrorsKept (dv G Γ H0) (a0 : Int) = (dv G Γ H1, r.toInt))) G) 0 0 (fun q => G.1.2.2 ≤ q) := by
  refine th_met RX12 (by decide) rfl (Nat.le_of_ble_eq_true rfl) ?_
  intro p e s m below meth c hC hH hr hlocks hnm ls hl
  have hx := hC.1
  have hb := hC.2.1
  have hB : th_B G Γ Γ [(48, 0), (61, 0), (46, 33)] H0 H0 [] := ⟨hI, va_S.rf, th_F_rf⟩
  have hl : lv_has ls 2 [(0, .ref a0)] := hl
  obtain ⟨F, hF0⟩ : ∃ F, F = f_X12_mirrorsKept (dv G Γ H0) ((a0 : Int)) := ⟨_, rfl⟩
  have hF := hF0.trans (f_X12_mirrorsKept.eq_1 (dv G Γ H0) ((a0 : Int)))
  refine lv_aload_n hx hb gX12_mirrorsKept_0.1 rfl (lv_at hl 0 rfl) ?_
  refine lv_iconst (v := 2) hx hb gX12_mirrorsKept_0.2.1 (by decide) ?_
  refine th_call (th_runV (As := [.int 2]) (rest := []) hC mf_X12_keeps km_X12_370 im_X12_keeps se_X12_keeps (c_X12_keeps l G Γ H0 hB.1 hU a0 h0 (th_NK hR) 2) rfl rfl ⟨Nat.le_of_ble_eq_true rfl, Nat.le_of_ble_eq_true rfl⟩ hB.1 h0 ro_46 rfl rfl hl.1 rfl (Nat.le_of_ble_eq_true rfl) gX12_mirrorsKept_0.2.2.1 ⟨Nat.le_refl _, Nat.le_refl _⟩) hB.2.1 (fun v2 H2 locs hp hz hS => ?_)
  have hRD := hR
  obtain ⟨rfl, hI1, hf, hR, z2_0, z2_1⟩ := hp
  have hRc2 := hR
  have hR := hRD
  have hRC := hRc2.1
  have hB := th_B_c hB hI1 hS hf (by decide)
  have vv_H2_2 : mo_v G H2 a0 2 = mo_v G H0 a0 2 := mo_v_F (r := 48) hB.1 hf h0 rfl ro_48 (by decide) (by decide)
  have vv_H2_3 : mo_v G H2 a0 3 = mo_v G H0 a0 3 := mo_v_F (r := 49) hB.1 hf h0 rfl ro_49 (by decide) (by decide)
  have vv_H2_4 : mo_v G H2 a0 4 = mo_v G H0 a0 4 := mo_v_F (r := 50) hB.1 hf h0 rfl ro_50 (by decide) (by decide)
  have zf2 := z2_1
  rw [tk_2] at zf2
  replace hF := hF.trans (dv_bn2 (zf2))
  refine W.eq (g2 := F0 m 5 ls []) rfl ?_
  have hR : th_RN a0 G Γ H2 := ⟨hRC, by rw [vv_H2_2, vv_H2_3, vv_H2_4]; exact mo_ok_kp hR.2 z2_0⟩
  have hR2 := hR
  have hR := th_NE hR
  have r69 := mo_many hB.1 h0
  have hB2 := hB
  refine lv_iconst (v := 0) hx hb gX12_mirrorsKept_0.2.2.2.1 (by decide) ?_
  refine lv_istore_n (lv' := [(1, .int 0), (0, .ref a0)]) hx hb gX12_mirrorsKept_0.2.2.2.2.1 rfl hl (by decide) rfl (fun ls hl => ?_)
  have lp7 : ∀ (n7 : Nat) (H7 : Heap) (locs : List Loc) (ls : Array Slot) (j7_1 : Int32), th_B G Γ Γ [(48, 0), (61, 0), (46, 33)] H0 H7 locs → th_RE a0 G Γ H7 → lv_has ls 2 [(0, .ref a0), (1, .int j7_1)] → F = dv_lp f_X12_mirrorsKept_7b (dv G Γ H7, (a0 : Int), j7_1.toInt) → 0 ≤ j7_1.toInt → j7_1.toInt ≤ 9 → (∀ i : Int, mo_v G H7 a0 2 i = if 9 ≤ i ∧ i < 9 + j7_1.toInt then (if mo_v G H2 a0 2 i = -1 then -1 else mo_v G H2 a0 2 67 - mo_v G H2 a0 2 i - mo_v G H2 a0 2 (i + 20)) else mo_v G H2 a0 2 i) → mo_v G H7 a0 31 = mo_v G H2 a0 31 → mo_f G H7 a0 33 = mo_f G H2 a0 33 → j7_1.toInt ≤ mo_v G H2 a0 2 69 → (2147483648 : Int) - j7_1.toInt ≤ (n7 : Int) → W p l e ({ frames := 2, cells := 0, slots := 0, locals := 43 } : Room) s m ([.ref a0] : List Value).toArray below meth c H7 locs 0 0 (MQ below (th_Q (fun (v : Option Value) (H1 : Heap) => ∃ r : Int32, v = some (.int r) ∧ 0 ≤ r.toInt ∧ r.toInt ≤ 9 ∧ th_I G Γ H1 ∧ th_F G Γ [(48, 0), (61, 0), (46, 33)] H0 H1 ∧ th_RN a0 G Γ H1 ∧ (∀ z : Int, 29 ≤ z → mo_v G H1 a0 2 z = mo_v G H0 a0 2 z) ∧ (f_X12_mirrorsKept (dv G Γ H0) (a0 : Int) = (dv G Γ H1, r.toInt))) G) ([.ref a0] : List Value).toArray s 0 0 (fun q => G.1.2.2 ≤ q)) (F0 m 7 ls []) := by
    intro n7
    induction n7 with
    | zero => intro H7 locs ls j7_1 hB hR hl hF g7_0 g7_1 g7_2 g7_3 g7_4 g7_5 hm7; exact absurd hm7 (by have := ti_hi j7_1; omega)
    | succ n7 ih7 =>
      intro H7 locs ls j7_1 hB hR hl hF g7_0 g7_1 g7_2 g7_3 g7_4 g7_5 hm7
      have lj7_1 := ti_lo j7_1; have uj7_1 := ti_hi j7_1
      have vw_H7_3 : mo_v G H7 a0 3 = mo_v G H0 a0 3 := mo_v_F (r := 49) hB.1 hB.2.2 h0 rfl ro_49 (by decide) (by decide)
      have vw_H7_4 : mo_v G H7 a0 4 = mo_v G H0 a0 4 := mo_v_F (r := 50) hB.1 hB.2.2 h0 rfl ro_50 (by decide) (by decide)
      have hm7 : (2147483648 : Int) - j7_1.toInt ≤ (n7 : Int) + 1 := by omega
      replace hF := hF.trans (dv_lp_eq)
      replace hF := hF.trans (congrArg (dv_k f_X12_mirrorsKept_7b) (f_X12_mirrorsKept_7c.eq_1 (dv G Γ H7) ((a0 : Int)) (j7_1.toInt)))
      refine lv_iload_n hx hb gX12_mirrorsKept_0.2.2.2.2.2.1 rfl (lv_at hl 1 rfl) ?_
      refine lv_aload_n hx hb gX12_mirrorsKept_0.2.2.2.2.2.2.1 rfl (lv_at hl 0 rfl) ?_
      refine th_call (th_runV (As := []) (rest := [.int j7_1]) hC mf_X12_many km_X12_115 im_X12_many se_X12_many (c_X12_many l G Γ H7 hB.1 hU a0 h0) rfl rfl ⟨Nat.le_of_ble_eq_true rfl, Nat.le_of_ble_eq_true rfl⟩ hB.1 h0 ro_46 rfl rfl hl.1 rfl (Nat.le_of_ble_eq_true rfl) gX12_mirrorsKept_0.2.2.2.2.2.2.2 ⟨Nat.le_refl _, Nat.le_refl _⟩) hB.2.1 (fun v9 H9 locs hp hz hS => ?_)
      obtain ⟨x1, rfl, lx1, ux1, q9_0, q9_1, rfl⟩ := hp
      have hB := th_B_s hB hS
      replace hF := hF.trans (congrArg (dv_k f_X12_mirrorsKept_7b) (dv_bn2 (q9_1)))
      refine W.eq (g2 := F0 m 12 ls [.int x1, .int j7_1]) rfl ?_
      have e9 : x1.toInt = mo_v G H2 a0 2 69 := by rw [q9_0, g7_2, if_neg (by omega)]
      refine tr_icmp_ge (tgt := 69) hx hb gX12_mirrorsKept_1.1 (by decide) (Eq.refl _) (Eq.refl _) (fun c12 => ?_) (fun c12 => ?_)
      · replace hF := hF.trans (congrArg (dv_k f_X12_mirrorsKept_7b) (if_pos c12))
        refine lv_aload_n hx hb gX12_mirrorsKept_5.2.1 rfl (lv_at hl 0 rfl) ?_
        have hR : th_RN a0 G Γ H7 := ⟨hR.1, by rw [(mo_v_F (j := 3) (r := 49) hB.1 hB.2.2 h0 rfl ro_49 (by decide) (by decide) : mo_v G H7 a0 3 = _), ← (mo_v_F (j := 3) (r := 49) hB2.1 hB2.2.2 h0 rfl ro_49 (by decide) (by decide) : mo_v G H2 a0 3 = _), (mo_v_F (j := 4) (r := 50) hB.1 hB.2.2 h0 rfl ro_50 (by decide) (by decide) : mo_v G H7 a0 4 = _), ← (mo_v_F (j := 4) (r := 50) hB2.1 hB2.2.2 h0 rfl ro_50 (by decide) (by decide) : mo_v G H2 a0 4 = _), g7_3, g7_4]; exact mo_ok_29 hR2.2 (fun i hi => by rw [g7_2 i, if_neg (by omega)]) (mo_geo_mi hR2.2.1.2.1 (fun i hi => by rw [g7_2 i, if_neg (by omega)]) (fun c c0 c1 => by rw [g7_2 (9 + c), if_pos (by omega), show 9 + c + 20 = 29 + c by omega]))⟩
        refine th_call (th_runV (As := []) (rest := []) hC mf_X12_laidMany km_X12_143 im_X12_laidMany se_X12_laidMany (c_X12_laidMany l G Γ H7 hB.1 hU a0 h0) rfl rfl ⟨Nat.le_of_ble_eq_true rfl, Nat.le_of_ble_eq_true rfl⟩ hB.1 h0 ro_46 rfl rfl hl.1 rfl (Nat.le_of_ble_eq_true rfl) gX12_mirrorsKept_5.2.2.1 ⟨Nat.le_refl _, Nat.le_refl _⟩) hB.2.1 (fun v70 H70 locs hp hz hS => ?_)
        obtain ⟨x2, rfl, lx2, ux2, q70_0, q70_1, rfl⟩ := hp
        have hB := th_B_s hB hS
        replace hF := hF.trans (congrArg (dv_k f_X12_mirrorsKept_7b) (dv_bn2 (q70_1)))
        refine W.eq (g2 := F0 m 73 ls [.int x2]) rfl ?_
        replace hF := hF.trans (dv_kr)
        exact th_iret hC hH hr hlocks rfl hB.2.1 ⟨_, rfl, by omega, by omega, hB.1, hB.2.2, hR, fun z a9 => by rw [g7_2 z, if_neg (by omega), vv_H2_2], (hF0.symm.trans hF)⟩ gX12_mirrorsKept_5.2.2.2
      · replace hF := hF.trans (congrArg (dv_k f_X12_mirrorsKept_7b) (if_neg (Int.not_le.mpr c12)))
        refine lv_aload_n hx hb gX12_mirrorsKept_1.2.1 rfl (lv_at hl 0 rfl) ?_
        refine th_getO (j := 2) (r2 := 48) hC cf_X12 hB.1 h0 ro_46 rfl rfl kf_X12_28 gX12_mirrorsKept_1.2.2.1 (fun b3 mb3 hb3 => ?_)
        have sb3 := (th_F_o hB.2.2 h0 ro_46 (j := 2) (by decide) (by decide)).symm.trans mb3
        refine lv_bipush (v := 9) hx hb gX12_mirrorsKept_1.2.2.2.1 (by decide) ?_
        refine lv_iload_n hx hb gX12_mirrorsKept_1.2.2.2.2.1 rfl (lv_at hl 1 rfl) ?_
        refine tr_iadd hx hb gX12_mirrorsKept_1.2.2.2.2.2.1 tk_9 (Eq.refl _) (by omega) (by omega) (fun x4 ex4 => ?_)
        replace hF := hF.trans (congrArg (dv_k f_X12_mirrorsKept_7b) (dv_bn (ex4.symm)))
        refine lv_aload_n hx hb gX12_mirrorsKept_1.2.2.2.2.2.2.1 rfl (lv_at hl 0 rfl) ?_
        refine lv_iload_n hx hb gX12_mirrorsKept_1.2.2.2.2.2.2.2 rfl (lv_at hl 1 rfl) ?_
        refine th_call (th_runV (As := [.int j7_1]) (rest := [.int x4, .ref b3]) hC mf_X12_isLaid km_X12_137 im_X12_isLaid se_X12_isLaid (c_X12_isLaid l G Γ H7 hB.1 hU a0 h0 j7_1 (by omega) (by omega)) rfl rfl ⟨Nat.le_of_ble_eq_true rfl, Nat.le_of_ble_eq_true rfl⟩ hB.1 h0 ro_46 rfl rfl hl.1 rfl (Nat.le_of_ble_eq_true rfl) gX12_mirrorsKept_2.1 ⟨Nat.le_refl _, Nat.le_refl _⟩) hB.2.1 (fun v25 H25 locs hp hz hS => ?_)
        obtain ⟨x5, rfl, lx5, ux5, q25_0, q25_1, q25_2, rfl⟩ := hp
        have hB := th_B_s hB hS
        replace hF := hF.trans (congrArg (dv_k f_X12_mirrorsKept_7b) (dv_bn2 (q25_2)))
        refine W.eq (g2 := F0 m 28 ls [.int x5, .int x4, .ref b3]) rfl ?_
        refine tr_if_eq (tgt := 61) hx hb gX12_mirrorsKept_2.2.1 (by decide) (Eq.refl _) (fun c28 => ?_) (fun c28 => ?_)
        · replace hF := hF.trans (congrArg (dv_k f_X12_mirrorsKept_7b) (if_pos c28))
          refine lv_iconst (v := (-1)) hx hb gX12_mirrorsKept_4.2.2.2.2.2.1 (by decide) ?_
          have hIo := hB.1
          refine th_iastF hC hB hb3 (Or.inl hb3) ro_48 rfl (by decide) (Eq.refl _) (by omega) (by omega) (by rw [(ek_a (by omega) (by omega))]; exact th_sIa) gX12_mirrorsKept_4.2.2.2.2.2.2.1 (fun H62 locs hB hf62 hst62 => ?_)
          have hf := hf62
          have mm6 := (th_F_o hf h0 ro_46 (j := 2) (by decide) (by decide)).trans mb3
          have hRC := th_RC_F hB.1 hR.1 hf (th_T_s hb3 ro_48 hst62) (by decide)
          have fv_H62_33 : mo_f G H62 a0 33 = mo_f G H7 a0 33 := mo_f_F hf h0 (by decide) (by decide)
          have vv_H62_3 : mo_v G H62 a0 3 = mo_v G H7 a0 3 := mo_v_F (r := 49) hB.1 hf h0 rfl ro_49 (by decide) (by decide)
          have vv_H62_4 : mo_v G H62 a0 4 = mo_v G H7 a0 4 := mo_v_F (r := 50) hB.1 hf h0 rfl ro_50 (by decide) (by decide)
          have vv_H62_31 : mo_v G H62 a0 31 = mo_v G H7 a0 31 := mo_v_F (r := 61) hB.1 hf h0 rfl ro_61 (by decide) (by decide)
          replace hF := hF.trans (congrArg (dv_k f_X12_mirrorsKept_7b) (dv_bn (dv_stoI hIo hB.1 hU hb3 ow_48 (i := x4.toInt) hst62 tk_m1 (by omega))))
          have vs62 : mo_v G H62 a0 2 = mo_u (mo_v G H7 a0 2) (9 + j7_1.toInt) (-1) := by rw [show ((9 + j7_1.toInt) : Int) = x4.toInt by omega]; exact mo_v_st h0 hb3 (by decide) mb3 hst62 (by omega)
          have hR := th_RE_st hB.1 hR h0 hb3 mb3 hf62 hst62 (by omega) (by omega)
          refine tr_iinc (fun x7 => [(1, .int x7), (0, .ref a0)]) hx hb gX12_mirrorsKept_4.2.2.2.2.2.2.2 hl (k := 1) rfl (Eq.refl _) tk_1 (by omega) (by omega) (by decide) (fun _ => rfl) (fun x7 ls ex7 hl => ?_)
          replace hF := hF.trans (congrArg (dv_k f_X12_mirrorsKept_7b) (dv_bn (ex7.symm)))
          refine lv_goto (tgt := 7) hx hb gX12_mirrorsKept_5.1 (by decide) ?_
          replace hF := hF.trans (dv_kl)
          exact ih7 H62 locs ls x7 hB hR (lv_sub hl [1, 0] rfl) hF (by omega) (by omega) (fun i => by rw [vs62]; by_cases q9 : i = (9 + j7_1.toInt); rw [mo_us q9, if_pos (by omega), q9]; have w1 : mo_v G H2 a0 2 (9 + j7_1.toInt) = -1 := (by have q7 := q25_1 (by omega); rw [g7_2, if_neg (by omega)] at q7; exact q7); rw [if_pos w1]; rw [mo_un q9, g7_2 i]; by_cases q8 : 9 ≤ i ∧ i < 9 + j7_1.toInt; rw [if_pos q8, if_pos (show 9 ≤ i ∧ i < 9 + x7.toInt by omega)]; rw [if_neg q8, if_neg (show ¬ (9 ≤ i ∧ i < 9 + x7.toInt) by omega)]) (vv_H62_31.trans g7_3) (by omega) (by omega) (by omega)
        · replace hF := hF.trans (congrArg (dv_k f_X12_mirrorsKept_7b) (if_neg c28))
          refine lv_aload_n hx hb gX12_mirrorsKept_2.2.2.1 rfl (lv_at hl 0 rfl) ?_
          have l31 : mo_v G H2 a0 2 (9 + j7_1.toInt) ≠ -1 := (by have q7 := q25_0 (by omega); rw [g7_2, if_neg (by omega)] at q7; exact q7)
          have ge31 := hR2.2.1.2.1.2.1 j7_1.toInt (by omega) (by omega) l31
          have w31 := mo_wide hB2.1 h0
          refine th_getK hC cf_X12 hB.1 h0 ro_46 rfl (j := 2) (by decide) mb3 kf_X12_28 gX12_mirrorsKept_2.2.2.2.1 ?_
          refine lv_bipush (v := 67) hx hb gX12_mirrorsKept_2.2.2.2.2.1 (by decide) ?_
          refine th_ialdF hC hB.1 hb3 ro_48 rfl tk_67 (by omega) (by omega) (ek_hall (by omega) (by omega)) gX12_mirrorsKept_2.2.2.2.2.2.1 (fun x8 mx8 lx8 ux8 => ?_)
          replace hF := hF.trans (congrArg (dv_k f_X12_mirrorsKept_7b) (dv_bn (dv_aldI hB.1 hU hb3 ow_48 (z := 67) mx8 (by omega))))
          have vgx8 : mo_v G H7 a0 2 67 = x8.toInt := by rw [show (67 : Int) = 67 by omega]; exact mo_vat mb3 mx8 (by omega)
          refine lv_aload_n hx hb gX12_mirrorsKept_2.2.2.2.2.2.2.1 rfl (lv_at hl 0 rfl) ?_
          refine th_getK hC cf_X12 hB.1 h0 ro_46 rfl (j := 2) (by decide) mb3 kf_X12_28 gX12_mirrorsKept_2.2.2.2.2.2.2.2 ?_
          refine lv_bipush (v := 9) hx hb gX12_mirrorsKept_3.1 (by decide) ?_
          refine lv_iload_n hx hb gX12_mirrorsKept_3.2.1 rfl (lv_at hl 1 rfl) ?_
          refine tr_iadd hx hb gX12_mirrorsKept_3.2.2.1 tk_9 (Eq.refl _) (by omega) (by omega) (fun x9 ex9 => ?_)
          replace hF := hF.trans (congrArg (dv_k f_X12_mirrorsKept_7b) (dv_bn (ex9.symm)))
          refine th_ialdF hC hB.1 hb3 ro_48 rfl (Eq.refl _) (by omega) (by omega) (ek_a (by omega) (by omega)) gX12_mirrorsKept_3.2.2.2.1 (fun x10 mx10 lx10 ux10 => ?_)
          replace hF := hF.trans (congrArg (dv_k f_X12_mirrorsKept_7b) (dv_bn (dv_aldI hB.1 hU hb3 ow_48 (z := x9.toInt) mx10 (by omega))))
          have vgx10 : mo_v G H7 a0 2 (9 + j7_1.toInt) = x10.toInt := by rw [show ((9 + j7_1.toInt) : Int) = x9.toInt by omega]; exact mo_vat mb3 mx10 (by omega)
          have x46 : mo_v G H2 a0 2 (9 + j7_1.toInt) = x10.toInt := (by have q7 := vgx10; rw [g7_2, if_neg (by omega)] at q7; exact q7)
          refine tr_isub hx hb gX12_mirrorsKept_3.2.2.2.2.1 (Eq.refl _) (Eq.refl _) (by omega) (by omega) (fun x11 ex11 => ?_)
          replace hF := hF.trans (congrArg (dv_k f_X12_mirrorsKept_7b) (dv_bn (ex11.symm)))
          refine lv_aload_n hx hb gX12_mirrorsKept_3.2.2.2.2.2.1 rfl (lv_at hl 0 rfl) ?_
          refine th_getK hC cf_X12 hB.1 h0 ro_46 rfl (j := 2) (by decide) mb3 kf_X12_28 gX12_mirrorsKept_3.2.2.2.2.2.2.1 ?_
          refine lv_bipush (v := 29) hx hb gX12_mirrorsKept_3.2.2.2.2.2.2.2 (by decide) ?_
          refine lv_iload_n hx hb gX12_mirrorsKept_4.1 rfl (lv_at hl 1 rfl) ?_
          refine tr_iadd hx hb gX12_mirrorsKept_4.2.1 tk_29 (Eq.refl _) (by omega) (by omega) (fun x12 ex12 => ?_)
          replace hF := hF.trans (congrArg (dv_k f_X12_mirrorsKept_7b) (dv_bn (ex12.symm)))
          refine th_ialdF hC hB.1 hb3 ro_48 rfl (Eq.refl _) (by omega) (by omega) (ek_side (by omega) (by omega)) gX12_mirrorsKept_4.2.2.1 (fun x13 mx13 lx13 ux13 => ?_)
          replace hF := hF.trans (congrArg (dv_k f_X12_mirrorsKept_7b) (dv_bn (dv_aldI hB.1 hU hb3 ow_48 (z := x12.toInt) mx13 (by omega))))
          have vgx13 : mo_v G H7 a0 2 (29 + j7_1.toInt) = x13.toInt := by rw [show ((29 + j7_1.toInt) : Int) = x12.toInt by omega]; exact mo_vat mb3 mx13 (by omega)
          refine tr_isub hx hb gX12_mirrorsKept_4.2.2.2.1 (Eq.refl _) (Eq.refl _) (by omega) (by omega) (fun x14 ex14 => ?_)
          replace hF := hF.trans (congrArg (dv_k f_X12_mirrorsKept_7b) (dv_bn (ex14.symm)))
          refine lv_goto (tgt := 62) hx hb gX12_mirrorsKept_4.2.2.2.2.1 (by decide) ?_
          have hIo := hB.1
          refine th_iastF hC hB hb3 (Or.inl hb3) ro_48 rfl (by decide) (Eq.refl _) (by omega) (by omega) (by rw [(ek_a (by omega) (by omega))]; exact th_sIa) gX12_mirrorsKept_4.2.2.2.2.2.2.1 (fun H62 locs hB hf62 hst62 => ?_)
          have hf := hf62
          have mm15 := (th_F_o hf h0 ro_46 (j := 2) (by decide) (by decide)).trans mb3
          have hRC := th_RC_F hB.1 hR.1 hf (th_T_s hb3 ro_48 hst62) (by decide)
          have fv_H62_33 : mo_f G H62 a0 33 = mo_f G H7 a0 33 := mo_f_F hf h0 (by decide) (by decide)
          have vv_H62_3 : mo_v G H62 a0 3 = mo_v G H7 a0 3 := mo_v_F (r := 49) hB.1 hf h0 rfl ro_49 (by decide) (by decide)
          have vv_H62_4 : mo_v G H62 a0 4 = mo_v G H7 a0 4 := mo_v_F (r := 50) hB.1 hf h0 rfl ro_50 (by decide) (by decide)
          have vv_H62_31 : mo_v G H62 a0 31 = mo_v G H7 a0 31 := mo_v_F (r := 61) hB.1 hf h0 rfl ro_61 (by decide) (by decide)
          replace hF := hF.trans (congrArg (dv_k f_X12_mirrorsKept_7b) (dv_bn (dv_stoI hIo hB.1 hU hb3 ow_48 (i := x4.toInt) hst62 (Eq.refl _) (by omega))))
          have vs62 : mo_v G H62 a0 2 = mo_u (mo_v G H7 a0 2) (9 + j7_1.toInt) x14.toInt := by rw [show ((9 + j7_1.toInt) : Int) = x4.toInt by omega]; exact mo_v_st h0 hb3 (by decide) mb3 hst62 (by omega)
          have hR := th_RE_st hB.1 hR h0 hb3 mb3 hf62 hst62 (by omega) (by omega)
          refine tr_iinc (fun x16 => [(1, .int x16), (0, .ref a0)]) hx hb gX12_mirrorsKept_4.2.2.2.2.2.2.2 hl (k := 1) rfl (Eq.refl _) tk_1 (by omega) (by omega) (by decide) (fun _ => rfl) (fun x16 ls ex16 hl => ?_)
          replace hF := hF.trans (congrArg (dv_k f_X12_mirrorsKept_7b) (dv_bn (ex16.symm)))
          refine lv_goto (tgt := 7) hx hb gX12_mirrorsKept_5.1 (by decide) ?_
          replace hF := hF.trans (dv_kl)
          exact ih7 H62 locs ls x16 hB hR (lv_sub hl [1, 0] rfl) hF (by omega) (by omega) (fun i => by rw [vs62]; by_cases q9 : i = (9 + j7_1.toInt); rw [mo_us q9, if_pos (by omega), q9]; have w1 : mo_v G H2 a0 2 (9 + j7_1.toInt) ≠ -1 := (by have q7 := q25_0 (by omega); rw [g7_2, if_neg (by omega)] at q7; exact q7); have w2 := vgx8; rw [g7_2, if_neg (by omega)] at w2; have w3 := vgx10; rw [g7_2, if_neg (by omega)] at w3; have w4 := vgx13; rw [g7_2, if_neg (by omega)] at w4; rw [if_neg w1, show 9 + j7_1.toInt + 20 = 29 + j7_1.toInt by omega]; omega; rw [mo_un q9, g7_2 i]; by_cases q8 : 9 ≤ i ∧ i < 9 + j7_1.toInt; rw [if_pos q8, if_pos (show 9 ≤ i ∧ i < 9 + x16.toInt by omega)]; rw [if_neg q8, if_neg (show ¬ (9 ≤ i ∧ i < 9 + x16.toInt) by omega)]) (vv_H62_31.trans g7_3) (by omega) (by omega) (by omega)
  exact lp7 ((2147483648 : Int) - (0)).toNat H2 locs ls 0 hB hR (lv_sub hl [1, 0] rfl) (by rw [tk_0]; exact hF) (by decide) (by decide) (fun i => by rw [if_neg (by have w0 := tk_0; omega)]) rfl (by have w0 := tk_0; omega) (by have w0 := tk_0; omega) (by have w0 := tk_0; omega)

set_option maxHeartbeats 4000000 in
set_option maxRecDepth 100000 in
theorem c_X12_passesKept (l : Launch) (G : th_G) (Γ : th_Ga) (H0 : Heap) (hI : th_I G Γ H0) (hU : dv_U Γ) (a0 : Nat) (h0 : Γ a0 = (46, 0)) (hR : th_RN a0 G Γ H0) : Met l yX12_passesKept (.code yX12_passesKept cX12_passesKept 1 (some FieldType.int) :: th_tb) ({ frames := 53, cells := 0, slots := 0, locals := 1670 } : Room) (th_P [.ref a0] G H0) (th_Q (fun (v : Option Value) (H1 : Heap) => ∃ r : Int32, v = some (.int r) ∧ (-3) ≤ r.toInt ∧ r.toInt ≤ 9 ∧ th_I G Γ H1 ∧ th_F G Γ [(48, 0), (61, 0), (46, 33), (46, 22), (46, 24), (58, 0), (46, 23), (46, 25), (60, 0)] H0 H1 ∧ th_RN a0 G Γ H1 ∧ (∀ z : Int, 29 ≤ z → mo_v G H1 a0 2 z = mo_v G H0 a0 2 z) ∧ (f_X12_passesKept (dv G Γ H0) (a0 : Int) = (dv G Γ H1, r.toInt))) G) 0 0 (fun q => G.1.2.2 ≤ q) := by
  refine th_met RX12 (by decide) rfl (Nat.le_of_ble_eq_true rfl) ?_
  intro p e s m below meth c hC hH hr hlocks hnm ls hl
  have hx := hC.1
  have hb := hC.2.1
  have hB : th_B G Γ Γ [(48, 0), (61, 0), (46, 33), (46, 22), (46, 24), (58, 0), (46, 23), (46, 25), (60, 0)] H0 H0 [] := ⟨hI, va_S.rf, th_F_rf⟩
  have hl : lv_has ls 1 [(0, .ref a0)] := hl
  obtain ⟨F, hF0⟩ : ∃ F, F = f_X12_passesKept (dv G Γ H0) ((a0 : Int)) := ⟨_, rfl⟩
  have hF := hF0.trans (f_X12_passesKept.eq_1 (dv G Γ H0) ((a0 : Int)))
  refine lv_aload_n hx hb gX12_passesKept_0.1 rfl (lv_at hl 0 rfl) ?_
  refine th_getO (j := 2) (r2 := 48) hC cf_X12 hB.1 h0 ro_46 rfl rfl kf_X12_28 gX12_passesKept_0.2.1 (fun b1 mb1 hb1 => ?_)
  refine lv_bipush (v := 28) hx hb gX12_passesKept_0.2.2.1 (by decide) ?_
  refine th_ialdF hC hB.1 hb1 ro_48 rfl tk_28 (by omega) (by omega) (ek_a (by omega) (by omega)) gX12_passesKept_0.2.2.2.1 (fun x2 mx2 lx2 ux2 => ?_)
  replace hF := hF.trans (dv_bn (dv_aldI hB.1 hU hb1 ow_48 (z := 28) mx2 (by omega)))
  have vgx2 : mo_v G H0 a0 2 28 = x2.toInt := by rw [show (28 : Int) = 28 by omega]; exact mo_vat mb1 mx2 (by omega)
  refine lv_sipush (v := 999) hx hb gX12_passesKept_0.2.2.2.2.1 (by decide) ?_
  refine tr_icmp_ne (tgt := 16) hx hb gX12_passesKept_0.2.2.2.2.2.1 (by decide) (Eq.refl _) tk_999 (fun c10 => ?_) (fun c10 => ?_)
  · replace hF := hF.trans (if_pos c10)
    refine lv_aload_n hx hb gX12_passesKept_1.1 rfl (lv_at hl 0 rfl) ?_
    refine lv_iconst (v := 3) hx hb gX12_passesKept_1.2.1 (by decide) ?_
    refine th_call (th_runV (As := [.int 3]) (rest := []) hC mf_X12_keeps km_X12_370 im_X12_keeps se_X12_keeps (c_X12_keeps l G Γ H0 hB.1 hU a0 h0 (th_NK hR) 3) rfl rfl ⟨Nat.le_of_ble_eq_true rfl, Nat.le_of_ble_eq_true rfl⟩ hB.1 h0 ro_46 rfl rfl hl.1 rfl (Nat.le_of_ble_eq_true rfl) gX12_passesKept_1.2.2.1 ⟨Nat.le_refl _, Nat.le_refl _⟩) hB.2.1 (fun v18 H18 locs hp hz hS => ?_)
    have hRD := hR
    obtain ⟨rfl, hI1, hf, hR, z18_0, z18_1⟩ := hp
    have hRc18 := hR
    have hR := hRD
    have hRC := hRc18.1
    have hB := th_B_c hB hI1 hS hf (by decide)
    have vv_H18_2 : mo_v G H18 a0 2 = mo_v G H0 a0 2 := mo_v_F (r := 48) hB.1 hf h0 rfl ro_48 (by decide) (by decide)
    have vv_H18_3 : mo_v G H18 a0 3 = mo_v G H0 a0 3 := mo_v_F (r := 49) hB.1 hf h0 rfl ro_49 (by decide) (by decide)
    have vv_H18_4 : mo_v G H18 a0 4 = mo_v G H0 a0 4 := mo_v_F (r := 50) hB.1 hf h0 rfl ro_50 (by decide) (by decide)
    have zf18 := z18_1
    rw [tk_3] at zf18
    replace hF := hF.trans (dv_bn2 (zf18))
    refine W.eq (g2 := F0 m 21 ls []) rfl ?_
    have hR : th_RN a0 G Γ H18 := ⟨hRC, by rw [vv_H18_2, vv_H18_3, vv_H18_4]; exact mo_ok_kp hR.2 z18_0⟩
    refine lv_aload_n hx hb gX12_passesKept_1.2.2.2.1 rfl (lv_at hl 0 rfl) ?_
    refine th_call (th_runV (As := []) (rest := []) hC mf_X12_yearPasses km_X12_376 im_X12_yearPasses se_X12_yearPasses (c_X12_yearPasses l G Γ H18 hB.1 hU a0 h0 (th_NE hR)) rfl rfl ⟨Nat.le_of_ble_eq_true rfl, Nat.le_of_ble_eq_true rfl⟩ hB.1 h0 ro_46 rfl rfl hl.1 rfl (Nat.le_of_ble_eq_true rfl) gX12_passesKept_1.2.2.2.2.1 ⟨Nat.le_refl _, Nat.le_refl _⟩) hB.2.1 (fun v22 H22 locs hp hz hS => ?_)
    have hRD := hR
    obtain ⟨x3, rfl, lx3, ux3, hI1, hf, hR, z22_0, z22_1⟩ := hp
    have hRc22 := hR
    have hR := hRD
    have hRC := hRc22.1
    have hB := th_B_c hB hI1 hS hf (by decide)
    have fv_H22_33 : mo_f G H22 a0 33 = mo_f G H18 a0 33 := mo_f_F hf h0 (by decide) (by decide)
    have vv_H22_3 : mo_v G H22 a0 3 = mo_v G H18 a0 3 := mo_v_F (r := 49) hB.1 hf h0 rfl ro_49 (by decide) (by decide)
    have vv_H22_4 : mo_v G H22 a0 4 = mo_v G H18 a0 4 := mo_v_F (r := 50) hB.1 hf h0 rfl ro_50 (by decide) (by decide)
    have vv_H22_31 : mo_v G H22 a0 31 = mo_v G H18 a0 31 := mo_v_F (r := 61) hB.1 hf h0 rfl ro_61 (by decide) (by decide)
    replace hF := hF.trans (dv_bn2 (z22_1))
    refine W.eq (g2 := F0 m 25 ls [.int x3]) rfl ?_
    have hR : th_RN a0 G Γ H22 := ⟨hRC, by rw [vv_H22_3, vv_H22_4, vv_H22_31, fv_H22_33]; exact mo_ok_sb hR.2 z22_0⟩
    exact th_iret hC hH hr hlocks rfl hB.2.1 ⟨_, rfl, by omega, by omega, hB.1, hB.2.2, hR, fun z a9 => by rw [z22_0.1 z a9, vv_H18_2], (hF0.symm.trans hF)⟩ gX12_passesKept_1.2.2.2.2.2
  · replace hF := hF.trans (if_neg (not_not_intro c10))
    refine lv_bipush (v := (-3)) hx hb gX12_passesKept_0.2.2.2.2.2.2.1 (by decide) ?_
    exact th_iret hC hH hr hlocks rfl hB.2.1 ⟨_, rfl, by decide, by decide, hB.1, hB.2.2, hR, fun z a9 => rfl, (hF0.symm.trans (hF.trans (by rw [tk_m3])))⟩ gX12_passesKept_0.2.2.2.2.2.2.2

set_option maxHeartbeats 4000000 in
set_option maxRecDepth 100000 in
theorem c_X12_lay (l : Launch) (G : th_G) (Γ : th_Ga) (H0 : Heap) (hI : th_I G Γ H0) (hU : dv_U Γ) (a0 : Nat) (h0 : Γ a0 = (46, 0)) (hR : th_RN a0 G Γ H0) (p1 : Int32) (p2 : Int32) (p3 : Int32) : Met l yX12_lay (.code yX12_lay cX12_lay 4 (some FieldType.int) :: th_tb) ({ frames := 54, cells := 0, slots := 0, locals := 1697 } : Room) (th_P [.ref a0, .int p1, .int p2, .int p3] G H0) (th_Q (fun (v : Option Value) (H1 : Heap) => ∃ r : Int32, v = some (.int r) ∧ th_I G Γ H1 ∧ th_F G Γ [(48, 0), (61, 0), (46, 33), (47, 0), (46, 0), (46, 22), (46, 24), (58, 0), (46, 23), (46, 25), (59, 0)] H0 H1 ∧ th_RN a0 G Γ H1 ∧ (f_X12_lay (dv G Γ H0) (a0 : Int) p1.toInt p2.toInt p3.toInt = (dv G Γ H1, r.toInt))) G) 0 0 (fun q => G.1.2.2 ≤ q) := by
  refine th_met RX12 (by decide) rfl (Nat.le_of_ble_eq_true rfl) ?_
  intro p e s m below meth c hC hH hr hlocks hnm ls hl
  have hx := hC.1
  have hb := hC.2.1
  have hB : th_B G Γ Γ [(48, 0), (61, 0), (46, 33), (47, 0), (46, 0), (46, 22), (46, 24), (58, 0), (46, 23), (46, 25), (59, 0)] H0 H0 [] := ⟨hI, va_S.rf, th_F_rf⟩
  have hl : lv_has ls 4 [(0, .ref a0), (1, .int p1), (2, .int p2), (3, .int p3)] := hl
  have lp1 := ti_lo p1; have up1 := ti_hi p1
  have lp2 := ti_lo p2; have up2 := ti_hi p2
  have lp3 := ti_lo p3; have up3 := ti_hi p3
  obtain ⟨F, hF0⟩ : ∃ F, F = f_X12_lay (dv G Γ H0) ((a0 : Int)) (p1.toInt) (p2.toInt) (p3.toInt) := ⟨_, rfl⟩
  have hF := hF0.trans (f_X12_lay.eq_1 (dv G Γ H0) ((a0 : Int)) (p1.toInt) (p2.toInt) (p3.toInt))
  refine lv_aload_n hx hb gX12_lay_0.1 rfl (lv_at hl 0 rfl) ?_
  refine lv_aload_n hx hb gX12_lay_0.2.1 rfl (lv_at hl 0 rfl) ?_
  refine lv_iload_n hx hb gX12_lay_0.2.2.1 rfl (lv_at hl 1 rfl) ?_
  refine lv_iload_n hx hb gX12_lay_0.2.2.2.1 rfl (lv_at hl 2 rfl) ?_
  refine lv_iload_n hx hb gX12_lay_0.2.2.2.2.1 rfl (lv_at hl 3 rfl) ?_
  refine th_call (th_runV (As := [.int p1, .int p2, .int p3]) (rest := [.ref a0]) hC mf_X12_laysKept km_X12_379 im_X12_laysKept se_X12_laysKept (c_X12_laysKept l G Γ H0 hB.1 hU a0 h0 hR p1 p2 p3) rfl rfl ⟨Nat.le_of_ble_eq_true rfl, Nat.le_of_ble_eq_true rfl⟩ hB.1 h0 ro_46 rfl rfl hl.1 rfl (Nat.le_of_ble_eq_true rfl) gX12_lay_0.2.2.2.2.2.1 ⟨Nat.le_refl _, Nat.le_refl _⟩) hB.2.1 (fun v5 H5 locs hp hz hS => ?_)
  obtain ⟨x1, rfl, lx1, ux1, hI1, hf, hR, z5_0, z5_1⟩ := hp
  have hB := th_B_c hB hI1 hS hf (by decide)
  replace hF := hF.trans (dv_bn2 (z5_1))
  refine W.eq (g2 := F0 m 8 ls [.int x1, .ref a0]) rfl ?_
  refine th_call (th_runV (As := [.int x1]) (rest := []) hC mf_X12_goodOr km_X12_382 im_X12_goodOr se_X12_goodOr (c_X12_goodOr l G Γ H5 hB.1 hR.1 hU a0 h0 x1 (by omega)) rfl rfl ⟨Nat.le_of_ble_eq_true rfl, Nat.le_of_ble_eq_true rfl⟩ hB.1 h0 ro_46 rfl rfl hl.1 rfl (Nat.le_of_ble_eq_true rfl) gX12_lay_0.2.2.2.2.2.2.1 ⟨Nat.le_refl _, Nat.le_refl _⟩) hB.2.1 (fun v8 H8 locs hp hz hS => ?_)
  have hRD := hR
  obtain ⟨x2, rfl, hI1, hf, hR, z8_0⟩ := hp
  have hR := th_RN_c hR hRD hI1 h0 hf (by decide)
  have hB := th_B_c hB hI1 hS hf (by decide)
  replace hF := hF.trans (dv_bn2 (z8_0))
  refine W.eq (g2 := F0 m 11 ls [.int x2]) rfl ?_
  exact th_iret hC hH hr hlocks rfl hB.2.1 ⟨_, rfl, hB.1, hB.2.2, hR, (hF0.symm.trans hF)⟩ gX12_lay_0.2.2.2.2.2.2.2

set_option maxHeartbeats 4000000 in
set_option maxRecDepth 100000 in
theorem c_X12_roll (l : Launch) (G : th_G) (Γ : th_Ga) (H0 : Heap) (hI : th_I G Γ H0) (hU : dv_U Γ) (a0 : Nat) (h0 : Γ a0 = (46, 0)) (hR : th_RN a0 G Γ H0) (p1 : Int32) : Met l yX12_roll (.code yX12_roll cX12_roll 2 (some FieldType.int) :: th_tb) ({ frames := 3, cells := 0, slots := 0, locals := 64 } : Room) (th_P [.ref a0, .int p1] G H0) (th_Q (fun (v : Option Value) (H1 : Heap) => ∃ r : Int32, v = some (.int r) ∧ th_I G Γ H1 ∧ th_F G Γ [(48, 0), (61, 0), (46, 33), (47, 0), (46, 0)] H0 H1 ∧ th_RN a0 G Γ H1 ∧ (f_X12_roll (dv G Γ H0) (a0 : Int) p1.toInt = (dv G Γ H1, r.toInt))) G) 0 0 (fun q => G.1.2.2 ≤ q) := by
  refine th_met RX12 (by decide) rfl (Nat.le_of_ble_eq_true rfl) ?_
  intro p e s m below meth c hC hH hr hlocks hnm ls hl
  have hx := hC.1
  have hb := hC.2.1
  have hB : th_B G Γ Γ [(48, 0), (61, 0), (46, 33), (47, 0), (46, 0)] H0 H0 [] := ⟨hI, va_S.rf, th_F_rf⟩
  have hl : lv_has ls 2 [(0, .ref a0), (1, .int p1)] := hl
  have lp1 := ti_lo p1; have up1 := ti_hi p1
  obtain ⟨F, hF0⟩ : ∃ F, F = f_X12_roll (dv G Γ H0) ((a0 : Int)) (p1.toInt) := ⟨_, rfl⟩
  have hF := hF0.trans (f_X12_roll.eq_1 (dv G Γ H0) ((a0 : Int)) (p1.toInt))
  refine lv_aload_n hx hb gX12_roll_0.1 rfl (lv_at hl 0 rfl) ?_
  refine lv_aload_n hx hb gX12_roll_0.2.1 rfl (lv_at hl 0 rfl) ?_
  refine lv_iload_n hx hb gX12_roll_0.2.2.1 rfl (lv_at hl 1 rfl) ?_
  refine th_call (th_runV (As := [.int p1]) (rest := [.ref a0]) hC mf_X12_rollsKept km_X12_385 im_X12_rollsKept se_X12_rollsKept (c_X12_rollsKept l G Γ H0 hB.1 hU a0 h0 hR p1) rfl rfl ⟨Nat.le_of_ble_eq_true rfl, Nat.le_of_ble_eq_true rfl⟩ hB.1 h0 ro_46 rfl rfl hl.1 rfl (Nat.le_of_ble_eq_true rfl) gX12_roll_0.2.2.2.1 ⟨Nat.le_refl _, Nat.le_refl _⟩) hB.2.1 (fun v3 H3 locs hp hz hS => ?_)
  obtain ⟨x1, rfl, lx1, ux1, hI1, hf, hR, z3_0, z3_1⟩ := hp
  have hB := th_B_c hB hI1 hS hf (by decide)
  replace hF := hF.trans (dv_bn2 (z3_1))
  refine W.eq (g2 := F0 m 6 ls [.int x1, .ref a0]) rfl ?_
  refine th_call (th_runV (As := [.int x1]) (rest := []) hC mf_X12_goodOr km_X12_382 im_X12_goodOr se_X12_goodOr (c_X12_goodOr l G Γ H3 hB.1 hR.1 hU a0 h0 x1 (by omega)) rfl rfl ⟨Nat.le_of_ble_eq_true rfl, Nat.le_of_ble_eq_true rfl⟩ hB.1 h0 ro_46 rfl rfl hl.1 rfl (Nat.le_of_ble_eq_true rfl) gX12_roll_0.2.2.2.2.1 ⟨Nat.le_refl _, Nat.le_refl _⟩) hB.2.1 (fun v6 H6 locs hp hz hS => ?_)
  have hRD := hR
  obtain ⟨x2, rfl, hI1, hf, hR, z6_0⟩ := hp
  have hR := th_RN_c hR hRD hI1 h0 hf (by decide)
  have hB := th_B_c hB hI1 hS hf (by decide)
  replace hF := hF.trans (dv_bn2 (z6_0))
  refine W.eq (g2 := F0 m 9 ls [.int x2]) rfl ?_
  exact th_iret hC hH hr hlocks rfl hB.2.1 ⟨_, rfl, hB.1, hB.2.2, hR, (hF0.symm.trans hF)⟩ gX12_roll_0.2.2.2.2.2

set_option maxHeartbeats 4000000 in
set_option maxRecDepth 100000 in
theorem c_X12_mirror (l : Launch) (G : th_G) (Γ : th_Ga) (H0 : Heap) (hI : th_I G Γ H0) (hU : dv_U Γ) (a0 : Nat) (h0 : Γ a0 = (46, 0)) (hR : th_RN a0 G Γ H0) : Met l yX12_mirror (.code yX12_mirror cX12_mirror 1 (some FieldType.int) :: th_tb) ({ frames := 3, cells := 0, slots := 0, locals := 64 } : Room) (th_P [.ref a0] G H0) (th_Q (fun (v : Option Value) (H1 : Heap) => ∃ r : Int32, v = some (.int r) ∧ th_I G Γ H1 ∧ th_F G Γ [(48, 0), (61, 0), (46, 33), (47, 0), (46, 0)] H0 H1 ∧ th_RN a0 G Γ H1 ∧ (f_X12_mirror (dv G Γ H0) (a0 : Int) = (dv G Γ H1, r.toInt))) G) 0 0 (fun q => G.1.2.2 ≤ q) := by
  refine th_met RX12 (by decide) rfl (Nat.le_of_ble_eq_true rfl) ?_
  intro p e s m below meth c hC hH hr hlocks hnm ls hl
  have hx := hC.1
  have hb := hC.2.1
  have hB : th_B G Γ Γ [(48, 0), (61, 0), (46, 33), (47, 0), (46, 0)] H0 H0 [] := ⟨hI, va_S.rf, th_F_rf⟩
  have hl : lv_has ls 1 [(0, .ref a0)] := hl
  obtain ⟨F, hF0⟩ : ∃ F, F = f_X12_mirror (dv G Γ H0) ((a0 : Int)) := ⟨_, rfl⟩
  have hF := hF0.trans (f_X12_mirror.eq_1 (dv G Γ H0) ((a0 : Int)))
  refine lv_aload_n hx hb gX12_mirror_0.1 rfl (lv_at hl 0 rfl) ?_
  refine lv_aload_n hx hb gX12_mirror_0.2.1 rfl (lv_at hl 0 rfl) ?_
  refine th_call (th_runV (As := []) (rest := [.ref a0]) hC mf_X12_mirrorsKept km_X12_388 im_X12_mirrorsKept se_X12_mirrorsKept (c_X12_mirrorsKept l G Γ H0 hB.1 hU a0 h0 hR) rfl rfl ⟨Nat.le_of_ble_eq_true rfl, Nat.le_of_ble_eq_true rfl⟩ hB.1 h0 ro_46 rfl rfl hl.1 rfl (Nat.le_of_ble_eq_true rfl) gX12_mirror_0.2.2.1 ⟨Nat.le_refl _, Nat.le_refl _⟩) hB.2.1 (fun v2 H2 locs hp hz hS => ?_)
  obtain ⟨x1, rfl, lx1, ux1, hI1, hf, hR, z2_0, z2_1⟩ := hp
  have hB := th_B_c hB hI1 hS hf (by decide)
  replace hF := hF.trans (dv_bn2 (z2_1))
  refine W.eq (g2 := F0 m 5 ls [.int x1, .ref a0]) rfl ?_
  refine th_call (th_runV (As := [.int x1]) (rest := []) hC mf_X12_goodOr km_X12_382 im_X12_goodOr se_X12_goodOr (c_X12_goodOr l G Γ H2 hB.1 hR.1 hU a0 h0 x1 (by omega)) rfl rfl ⟨Nat.le_of_ble_eq_true rfl, Nat.le_of_ble_eq_true rfl⟩ hB.1 h0 ro_46 rfl rfl hl.1 rfl (Nat.le_of_ble_eq_true rfl) gX12_mirror_0.2.2.2.1 ⟨Nat.le_refl _, Nat.le_refl _⟩) hB.2.1 (fun v5 H5 locs hp hz hS => ?_)
  have hRD := hR
  obtain ⟨x2, rfl, hI1, hf, hR, z5_0⟩ := hp
  have hR := th_RN_c hR hRD hI1 h0 hf (by decide)
  have hB := th_B_c hB hI1 hS hf (by decide)
  replace hF := hF.trans (dv_bn2 (z5_0))
  refine W.eq (g2 := F0 m 8 ls [.int x2]) rfl ?_
  exact th_iret hC hH hr hlocks rfl hB.2.1 ⟨_, rfl, hB.1, hB.2.2, hR, (hF0.symm.trans hF)⟩ gX12_mirror_0.2.2.2.2

set_option maxHeartbeats 4000000 in
set_option maxRecDepth 100000 in
theorem c_X12_pass (l : Launch) (G : th_G) (Γ : th_Ga) (H0 : Heap) (hI : th_I G Γ H0) (hU : dv_U Γ) (a0 : Nat) (h0 : Γ a0 = (46, 0)) (hR : th_RN a0 G Γ H0) : Met l yX12_pass (.code yX12_pass cX12_pass 1 (some FieldType.int) :: th_tb) ({ frames := 54, cells := 0, slots := 0, locals := 1690 } : Room) (th_P [.ref a0] G H0) (th_Q (fun (v : Option Value) (H1 : Heap) => ∃ r : Int32, v = some (.int r) ∧ th_I G Γ H1 ∧ th_F G Γ [(48, 0), (61, 0), (46, 33), (47, 0), (46, 0), (46, 22), (46, 24), (58, 0), (46, 23), (46, 25), (60, 0)] H0 H1 ∧ th_RN a0 G Γ H1 ∧ (f_X12_pass (dv G Γ H0) (a0 : Int) = (dv G Γ H1, r.toInt))) G) 0 0 (fun q => G.1.2.2 ≤ q) := by
  refine th_met RX12 (by decide) rfl (Nat.le_of_ble_eq_true rfl) ?_
  intro p e s m below meth c hC hH hr hlocks hnm ls hl
  have hx := hC.1
  have hb := hC.2.1
  have hB : th_B G Γ Γ [(48, 0), (61, 0), (46, 33), (47, 0), (46, 0), (46, 22), (46, 24), (58, 0), (46, 23), (46, 25), (60, 0)] H0 H0 [] := ⟨hI, va_S.rf, th_F_rf⟩
  have hl : lv_has ls 1 [(0, .ref a0)] := hl
  obtain ⟨F, hF0⟩ : ∃ F, F = f_X12_pass (dv G Γ H0) ((a0 : Int)) := ⟨_, rfl⟩
  have hF := hF0.trans (f_X12_pass.eq_1 (dv G Γ H0) ((a0 : Int)))
  refine lv_aload_n hx hb gX12_pass_0.1 rfl (lv_at hl 0 rfl) ?_
  refine lv_aload_n hx hb gX12_pass_0.2.1 rfl (lv_at hl 0 rfl) ?_
  refine th_call (th_runV (As := []) (rest := [.ref a0]) hC mf_X12_passesKept km_X12_391 im_X12_passesKept se_X12_passesKept (c_X12_passesKept l G Γ H0 hB.1 hU a0 h0 hR) rfl rfl ⟨Nat.le_of_ble_eq_true rfl, Nat.le_of_ble_eq_true rfl⟩ hB.1 h0 ro_46 rfl rfl hl.1 rfl (Nat.le_of_ble_eq_true rfl) gX12_pass_0.2.2.1 ⟨Nat.le_refl _, Nat.le_refl _⟩) hB.2.1 (fun v2 H2 locs hp hz hS => ?_)
  obtain ⟨x1, rfl, lx1, ux1, hI1, hf, hR, z2_0, z2_1⟩ := hp
  have hB := th_B_c hB hI1 hS hf (by decide)
  replace hF := hF.trans (dv_bn2 (z2_1))
  refine W.eq (g2 := F0 m 5 ls [.int x1, .ref a0]) rfl ?_
  refine th_call (th_runV (As := [.int x1]) (rest := []) hC mf_X12_goodOr km_X12_382 im_X12_goodOr se_X12_goodOr (c_X12_goodOr l G Γ H2 hB.1 hR.1 hU a0 h0 x1 (by omega)) rfl rfl ⟨Nat.le_of_ble_eq_true rfl, Nat.le_of_ble_eq_true rfl⟩ hB.1 h0 ro_46 rfl rfl hl.1 rfl (Nat.le_of_ble_eq_true rfl) gX12_pass_0.2.2.2.1 ⟨Nat.le_refl _, Nat.le_refl _⟩) hB.2.1 (fun v5 H5 locs hp hz hS => ?_)
  have hRD := hR
  obtain ⟨x2, rfl, hI1, hf, hR, z5_0⟩ := hp
  have hR := th_RN_c hR hRD hI1 h0 hf (by decide)
  have hB := th_B_c hB hI1 hS hf (by decide)
  replace hF := hF.trans (dv_bn2 (z5_0))
  refine W.eq (g2 := F0 m 8 ls [.int x2]) rfl ?_
  exact th_iret hC hH hr hlocks rfl hB.2.1 ⟨_, rfl, hB.1, hB.2.2, hR, (hF0.symm.trans hF)⟩ gX12_pass_0.2.2.2.2
end
section
section MO9
variable {G : th_G} {Γ : th_Ga} {H H1 : Heap} {L : List (Nat × Nat)} {a : Nat}
/-- the first n of a row of carpets lie within twelve by twelve -/
def mo_rw (G : th_G) (H : Heap) (a : Nat) (n : Int) : Prop := ∀ z : Int, 0 ≤ z → z < n → mo_v G H a 36 z % 12 + mo_v G H a 2 (29 + mo_v G H a 35 z) ≤ 12 ∧ mo_v G H a 36 z / 12 + mo_v G H a 2 (29 + mo_v G H a 35 z) ≤ 12
theorem mo_rw_F {n : Int} (h : mo_rw G H a n) (hI : th_I G Γ H1) (ha : Γ a = (46, 0)) (hF : th_F G Γ L H H1) (hL : (th_in L 46 2 = false ∧ th_in L 48 0 = false) ∧ (th_in L 46 35 = false ∧ th_in L 64 0 = false) ∧ (th_in L 46 36 = false ∧ th_in L 65 0 = false)) : mo_rw G H1 a n := by
  unfold mo_rw
  rw [mo_v_F (j := 2) (r := 48) hI hF ha rfl ro_48 hL.1.1 hL.1.2, mo_v_F (j := 35) (r := 64) hI hF ha rfl ro_64 hL.2.1.1 hL.2.1.2, mo_v_F (j := 36) (r := 65) hI hF ha rfl ro_65 hL.2.2.1 hL.2.2.2]
  exact h
theorem mo_rw_0 {n : Int} (h : n ≤ 0) : mo_rw G H a n := fun z a b => by omega
theorem mo_rw_le {n m : Int} (h : mo_rw G H a n) (hm : m ≤ n) : mo_rw G H a m := fun z a b => h z a (by omega)
theorem mo_rw_s {n c q : Int} (h : mo_rw G H a n) (e2 : mo_v G H1 a 2 = mo_v G H a 2) (e35 : mo_v G H1 a 35 = mo_u (mo_v G H a 35) n c) (e36 : mo_v G H1 a 36 = mo_u (mo_v G H a 36) n q) (f1 : q % 12 + mo_v G H a 2 (29 + c) ≤ 12) (f2 : q / 12 + mo_v G H a 2 (29 + c) ≤ 12) : mo_rw G H1 a (n + 1) := by
  intro z z0 z1
  rw [e2, e35, e36]
  by_cases w : z = n
  · rw [mo_us w, mo_us w]
    exact ⟨f1, f2⟩
  · rw [mo_un w, mo_un w]
    exact h z z0 (by omega)
theorem mo_dl {a b : Int} (hb : 0 < b) (h : a < b * b) : a / b < b := Int.ediv_lt_of_lt_mul hb h
theorem mo_pc_pos {x c : Int32} (h0 : 0 ≤ c.toInt) (h1 : c.toInt ≤ 8) (hb : mo_bt x c.toInt) : 1 ≤ mo_pc x := by
  have := mo_pc_drop (z3 := x &&& ((1 <<< (c &&& 31)) ^^^ (-1))) h0 h1 hb rfl rfl rfl
  omega
end MO9
set_option maxHeartbeats 4000000 in
set_option maxRecDepth 100000 in
theorem c_X12_laysPrices (l : Launch) (G : th_G) (Γ : th_Ga) (H0 : Heap) (hI : th_I G Γ H0) (hU : dv_U Γ) (a0 : Nat) (h0 : Γ a0 = (46, 0)) (hR : th_RE a0 G Γ H0) (p1 : Int32) : Met l yX12_laysPrices (.code yX12_laysPrices cX12_laysPrices 6 (none) :: th_tb) ({ frames := 52, cells := 0, slots := 0, locals := 1650 } : Room) (th_P [.ref a0, .int p1] G H0) (th_Q (fun (v : Option Value) (H1 : Heap) => v = none ∧ th_I G Γ H1 ∧ th_F G Γ [(63, 0), (46, 22), (46, 24), (58, 0), (46, 23), (46, 25)] H0 H1 ∧ th_RE a0 G Γ H1 ∧ (f_X12_laysPrices (dv G Γ H0) (a0 : Int) p1.toInt = (dv G Γ H1, 0))) G) 0 0 (fun q => G.1.2.2 ≤ q) := by
  refine th_met RX12 (by decide) rfl (Nat.le_of_ble_eq_true rfl) ?_
  intro p e s m below meth c hC hH hr hlocks hnm ls hl
  have hx := hC.1
  have hb := hC.2.1
  have hB : th_B G Γ Γ [(63, 0), (46, 22), (46, 24), (58, 0), (46, 23), (46, 25)] H0 H0 [] := ⟨hI, va_S.rf, th_F_rf⟩
  have hl : lv_has ls 6 [(0, .ref a0), (1, .int p1)] := hl
  have lp1 := ti_lo p1; have up1 := ti_hi p1
  obtain ⟨F, hF0⟩ : ∃ F, F = f_X12_laysPrices (dv G Γ H0) ((a0 : Int)) (p1.toInt) := ⟨_, rfl⟩
  have hF := hF0.trans (f_X12_laysPrices.eq_1 (dv G Γ H0) ((a0 : Int)) (p1.toInt))
  refine lv_iconst (v := 0) hx hb gX12_laysPrices_0.1 (by decide) ?_
  refine lv_istore_n (lv' := [(2, .int 0), (0, .ref a0), (1, .int p1)]) hx hb gX12_laysPrices_0.2.1 rfl hl (by decide) rfl (fun ls hl => ?_)
  have lp2 : ∀ (n2 : Nat) (H2 : Heap) (locs : List Loc) (ls : Array Slot) (j2_2 : Int32), th_B G Γ Γ [(63, 0), (46, 22), (46, 24), (58, 0), (46, 23), (46, 25)] H0 H2 locs → th_RE a0 G Γ H2 → lv_has ls 6 [(0, .ref a0), (1, .int p1), (2, .int j2_2)] → F = dv_lp f_X12_laysPrices_2b (dv G Γ H2, (a0 : Int), p1.toInt, j2_2.toInt) → 0 ≤ j2_2.toInt → j2_2.toInt ≤ 9 → (2147483648 : Int) - j2_2.toInt ≤ (n2 : Int) → W p l e ({ frames := 52, cells := 0, slots := 0, locals := 1650 } : Room) s m ([.ref a0, .int p1] : List Value).toArray below meth c H2 locs 0 0 (MQ below (th_Q (fun (v : Option Value) (H1 : Heap) => v = none ∧ th_I G Γ H1 ∧ th_F G Γ [(63, 0), (46, 22), (46, 24), (58, 0), (46, 23), (46, 25)] H0 H1 ∧ th_RE a0 G Γ H1 ∧ (f_X12_laysPrices (dv G Γ H0) (a0 : Int) p1.toInt = (dv G Γ H1, 0))) G) ([.ref a0, .int p1] : List Value).toArray s 0 0 (fun q => G.1.2.2 ≤ q)) (F0 m 2 ls []) := by
    intro n2
    induction n2 with
    | zero => intro H2 locs ls j2_2 hB hR hl hF g2_0 g2_1 hm2; exact absurd hm2 (by have := ti_hi j2_2; omega)
    | succ n2 ih2 =>
      intro H2 locs ls j2_2 hB hR hl hF g2_0 g2_1 hm2
      have lj2_2 := ti_lo j2_2; have uj2_2 := ti_hi j2_2
      have hm2 : (2147483648 : Int) - j2_2.toInt ≤ (n2 : Int) + 1 := by omega
      replace hF := hF.trans (dv_lp_eq)
      replace hF := hF.trans (congrArg (dv_k f_X12_laysPrices_2b) (f_X12_laysPrices_2c.eq_1 (dv G Γ H2) ((a0 : Int)) (p1.toInt) (j2_2.toInt)))
      refine lv_iload_n hx hb gX12_laysPrices_0.2.2.1 rfl (lv_at hl 2 rfl) ?_
      refine lv_aload_n hx hb gX12_laysPrices_0.2.2.2.1 rfl (lv_at hl 0 rfl) ?_
      refine th_call (th_runV (As := []) (rest := [.int j2_2]) hC mf_X12_many km_X12_115 im_X12_many se_X12_many (c_X12_many l G Γ H2 hB.1 hU a0 h0) rfl rfl ⟨Nat.le_of_ble_eq_true rfl, Nat.le_of_ble_eq_true rfl⟩ hB.1 h0 ro_46 rfl rfl hl.1 rfl (Nat.le_of_ble_eq_true rfl) gX12_laysPrices_0.2.2.2.2.1 ⟨Nat.le_refl _, Nat.le_refl _⟩) hB.2.1 (fun v4 H4 locs hp hz hS => ?_)
      obtain ⟨x1, rfl, lx1, ux1, q4_0, q4_1, rfl⟩ := hp
      have hB := th_B_s hB hS
      replace hF := hF.trans (congrArg (dv_k f_X12_laysPrices_2b) (dv_bn2 (q4_1)))
      refine W.eq (g2 := F0 m 7 ls [.int x1, .int j2_2]) rfl ?_
      refine tr_icmp_ge (tgt := 88) hx hb gX12_laysPrices_0.2.2.2.2.2.1 (by decide) (Eq.refl _) (Eq.refl _) (fun c7 => ?_) (fun c7 => ?_)
      · replace hF := hF.trans (congrArg (dv_k f_X12_laysPrices_2b) (if_pos c7))
        replace hF := hF.trans (dv_kr)
        exact th_vret hC hH hr hlocks hB.2.1 ⟨rfl, hB.1, hB.2.2, hR, (hF0.symm.trans hF)⟩ gX12_laysPrices_6
      · replace hF := hF.trans (congrArg (dv_k f_X12_laysPrices_2b) (if_neg (Int.not_le.mpr c7)))
        refine lv_iconst (v := 0) hx hb gX12_laysPrices_0.2.2.2.2.2.2.1 (by decide) ?_
        refine lv_istore_n (lv' := [(3, .int 0), (0, .ref a0), (1, .int p1), (2, .int j2_2)]) hx hb gX12_laysPrices_0.2.2.2.2.2.2.2 rfl hl (by decide) rfl (fun ls hl => ?_)
        have lp12 : ∀ (n12 : Nat) (H12 : Heap) (locs : List Loc) (ls : Array Slot) (j12_3 : Int32), th_B G Γ Γ [(63, 0), (46, 22), (46, 24), (58, 0), (46, 23), (46, 25)] H0 H12 locs → th_RE a0 G Γ H12 → lv_has ls 6 [(0, .ref a0), (1, .int p1), (2, .int j2_2), (3, .int j12_3)] → F = dv_k f_X12_laysPrices_2b (dv_lp f_X12_laysPrices_12b (dv G Γ H12, (a0 : Int), p1.toInt, j2_2.toInt, j12_3.toInt)) → 0 ≤ j12_3.toInt → j12_3.toInt ≤ 144 → (2147483648 : Int) - j12_3.toInt ≤ (n12 : Int) → W p l e ({ frames := 52, cells := 0, slots := 0, locals := 1650 } : Room) s m ([.ref a0, .int p1] : List Value).toArray below meth c H12 locs 0 0 (MQ below (th_Q (fun (v : Option Value) (H1 : Heap) => v = none ∧ th_I G Γ H1 ∧ th_F G Γ [(63, 0), (46, 22), (46, 24), (58, 0), (46, 23), (46, 25)] H0 H1 ∧ th_RE a0 G Γ H1 ∧ (f_X12_laysPrices (dv G Γ H0) (a0 : Int) p1.toInt = (dv G Γ H1, 0))) G) ([.ref a0, .int p1] : List Value).toArray s 0 0 (fun q => G.1.2.2 ≤ q)) (F0 m 12 ls []) := by
          intro n12
          induction n12 with
          | zero => intro H12 locs ls j12_3 hB hR hl hF g12_0 g12_1 hm12; exact absurd hm12 (by have := ti_hi j12_3; omega)
          | succ n12 ih12 =>
            intro H12 locs ls j12_3 hB hR hl hF g12_0 g12_1 hm12
            have lj12_3 := ti_lo j12_3; have uj12_3 := ti_hi j12_3
            have hm12 : (2147483648 : Int) - j12_3.toInt ≤ (n12 : Int) + 1 := by omega
            replace hF := hF.trans (congrArg (dv_k f_X12_laysPrices_2b) (dv_lp_eq))
            replace hF := hF.trans (congrArg (dv_k f_X12_laysPrices_2b) (congrArg (dv_k f_X12_laysPrices_12b) (f_X12_laysPrices_12c.eq_1 (dv G Γ H12) ((a0 : Int)) (p1.toInt) (j2_2.toInt) (j12_3.toInt))))
            refine lv_iload_n hx hb gX12_laysPrices_1.1 rfl (lv_at hl 3 rfl) ?_
            refine lv_sipush (v := 144) hx hb gX12_laysPrices_1.2.1 (by decide) ?_
            have jn82 : ∀ (locs : List Loc) (ls : Array Slot) , th_B G Γ Γ [(63, 0), (46, 22), (46, 24), (58, 0), (46, 23), (46, 25)] H0 H12 locs → lv_has ls 6 [(0, .ref a0), (1, .int p1), (2, .int j2_2)] → F = dv_k f_X12_laysPrices_2b (dv_k f_X12_laysPrices_12b (f_X12_laysPrices_82 (dv G Γ H12) ((a0 : Int)) (p1.toInt) (j2_2.toInt))) → W p l e ({ frames := 52, cells := 0, slots := 0, locals := 1650 } : Room) s m ([.ref a0, .int p1] : List Value).toArray below meth c H12 locs 0 0 (MQ below (th_Q (fun (v : Option Value) (H1 : Heap) => v = none ∧ th_I G Γ H1 ∧ th_F G Γ [(63, 0), (46, 22), (46, 24), (58, 0), (46, 23), (46, 25)] H0 H1 ∧ th_RE a0 G Γ H1 ∧ (f_X12_laysPrices (dv G Γ H0) (a0 : Int) p1.toInt = (dv G Γ H1, 0))) G) ([.ref a0, .int p1] : List Value).toArray s 0 0 (fun q => G.1.2.2 ≤ q)) (F0 m 82 ls []) := by
              intro locs ls hB hl hF
              replace hF := hF.trans (congrArg (dv_k f_X12_laysPrices_2b) (congrArg (dv_k f_X12_laysPrices_12b) (f_X12_laysPrices_82.eq_1 (dv G Γ H12) ((a0 : Int)) (p1.toInt) (j2_2.toInt))))
              refine tr_iinc (fun x2 => [(2, .int x2), (0, .ref a0), (1, .int p1)]) hx hb gX12_laysPrices_5.2.2.2.2.2.2.1 hl (k := 2) rfl (Eq.refl _) tk_1 (by omega) (by omega) (by decide) (fun _ => rfl) (fun x2 ls ex2 hl => ?_)
              replace hF := hF.trans (congrArg (dv_k f_X12_laysPrices_2b) (congrArg (dv_k f_X12_laysPrices_12b) (dv_bn (ex2.symm))))
              refine lv_goto (tgt := 2) hx hb gX12_laysPrices_5.2.2.2.2.2.2.2 (by decide) ?_
              replace hF := hF.trans (congrArg (dv_k f_X12_laysPrices_2b) (dv_kr))
              replace hF := hF.trans (dv_kl)
              exact ih2 H12 locs ls x2 hB hR (lv_sub hl [1, 2, 0] rfl) hF (by omega) (by omega) (by omega)
            refine tr_icmp_ge (tgt := 82) hx hb gX12_laysPrices_1.2.2.1 (by decide) (Eq.refl _) tk_144 (fun c16 => ?_) (fun c16 => ?_)
            · replace hF := hF.trans (congrArg (dv_k f_X12_laysPrices_2b) (congrArg (dv_k f_X12_laysPrices_12b) (if_pos c16)))
              exact jn82 locs ls hB (lv_sub hl [0, 1, 2] rfl) hF
            · replace hF := hF.trans (congrArg (dv_k f_X12_laysPrices_2b) (congrArg (dv_k f_X12_laysPrices_12b) (if_neg (Int.not_le.mpr c16))))
              refine lv_iload_n hx hb gX12_laysPrices_1.2.2.2.1 rfl (lv_at hl 1 rfl) ?_
              refine lv_iload_n hx hb gX12_laysPrices_1.2.2.2.2.1 rfl (lv_at hl 2 rfl) ?_
              refine th_call (th_runS (As := [.int p1, .int j2_2]) (rest := []) hC mf_X12_isIn km_X12_348 st_X12_isIn (c_X12_isIn l G Γ H12 hB.1 hU p1 j2_2 (by omega) (by omega)) rfl rfl ⟨Nat.le_of_ble_eq_true rfl, Nat.le_of_ble_eq_true rfl⟩ rfl hl.1 rfl (Nat.le_of_ble_eq_true rfl) gX12_laysPrices_1.2.2.2.2.2.1 ⟨Nat.le_refl _, Nat.le_refl _⟩) hB.2.1 (fun v21 H21 locs hp hz hS => ?_)
              obtain ⟨x3, rfl, lx3, ux3, q21_0, q21_1, rfl⟩ := hp
              have hB := th_B_s hB hS
              replace hF := hF.trans (congrArg (dv_k f_X12_laysPrices_2b) (congrArg (dv_k f_X12_laysPrices_12b) (dv_bn2 (q21_1))))
              refine W.eq (g2 := F0 m 24 ls [.int x3]) rfl ?_
              refine tr_if_eq (tgt := 82) hx hb gX12_laysPrices_1.2.2.2.2.2.2.1 (by decide) (Eq.refl _) (fun c24 => ?_) (fun c24 => ?_)
              · replace hF := hF.trans (congrArg (dv_k f_X12_laysPrices_2b) (congrArg (dv_k f_X12_laysPrices_12b) (if_pos c24)))
                exact jn82 locs ls hB (lv_sub hl [0, 1, 2] rfl) hF
              · replace hF := hF.trans (congrArg (dv_k f_X12_laysPrices_2b) (congrArg (dv_k f_X12_laysPrices_12b) (if_neg c24)))
                refine lv_iload_n hx hb gX12_laysPrices_1.2.2.2.2.2.2.2 rfl (lv_at hl 3 rfl) ?_
                refine lv_bipush (v := 12) hx hb gX12_laysPrices_2.1 (by decide) ?_
                refine tr_irem hx hb gX12_laysPrices_2.2.1 (Eq.refl _) tk_12 (by omega) (by omega) (fun x4 ex4 => ?_)
                replace hF := hF.trans (congrArg (dv_k f_X12_laysPrices_2b) (congrArg (dv_k f_X12_laysPrices_12b) (dv_bn (ex4.symm))))
                refine lv_istore (lv' := [(4, .int x4), (0, .ref a0), (1, .int p1), (2, .int j2_2), (3, .int j12_3)]) hx hb gX12_laysPrices_2.2.2.1 hl (by decide) rfl (fun ls hl => ?_)
                refine lv_iload_n hx hb gX12_laysPrices_2.2.2.2.1 rfl (lv_at hl 4 rfl) ?_
                refine lv_bipush (v := 12) hx hb gX12_laysPrices_2.2.2.2.2.1 (by decide) ?_
                refine tr_idiv hx hb gX12_laysPrices_2.2.2.2.2.2.1 (Eq.refl _) tk_12 (by omega) (by omega) (fun x5 ex5 => ?_)
                replace hF := hF.trans (congrArg (dv_k f_X12_laysPrices_2b) (congrArg (dv_k f_X12_laysPrices_12b) (dv_bn (ex5.symm))))
                refine lv_istore (lv' := [(5, .int x5), (4, .int x4), (0, .ref a0), (1, .int p1), (2, .int j2_2), (3, .int j12_3)]) hx hb gX12_laysPrices_2.2.2.2.2.2.2.1 hl (by decide) rfl (fun ls hl => ?_)
                refine lv_aload_n hx hb gX12_laysPrices_2.2.2.2.2.2.2.2 rfl (lv_at hl 2 rfl) ?_
                refine th_getO (j := 34) (r2 := 63) hC cf_X12 hB.1 h0 ro_46 rfl rfl kf_X12_78 gX12_laysPrices_3.1 (fun b6 mb6 hb6 => ?_)
                have sb6 := (th_F_o hB.2.2 h0 ro_46 (j := 34) (by decide) (by decide)).symm.trans mb6
                refine lv_sipush (v := 144) hx hb gX12_laysPrices_3.2.1 (by decide) ?_
                refine lv_iload_n hx hb gX12_laysPrices_3.2.2.1 rfl (lv_at hl 4 rfl) ?_
                refine tr_imul hx hb gX12_laysPrices_3.2.2.2.1 tk_144 (Eq.refl _) (by omega) (by omega) (fun x7 ex7 => ?_)
                replace hF := hF.trans (congrArg (dv_k f_X12_laysPrices_2b) (congrArg (dv_k f_X12_laysPrices_12b) (dv_bn (ex7.symm))))
                refine lv_iload_n hx hb gX12_laysPrices_3.2.2.2.2.1 rfl (lv_at hl 5 rfl) ?_
                refine tr_iadd hx hb gX12_laysPrices_3.2.2.2.2.2.1 (Eq.refl _) (Eq.refl _) (by omega) (by omega) (fun x8 ex8 => ?_)
                replace hF := hF.trans (congrArg (dv_k f_X12_laysPrices_2b) (congrArg (dv_k f_X12_laysPrices_12b) (dv_bn (ex8.symm))))
                refine lv_aload_n hx hb gX12_laysPrices_3.2.2.2.2.2.2.1 rfl (lv_at hl 2 rfl) ?_
                refine lv_iload_n hx hb gX12_laysPrices_3.2.2.2.2.2.2.2 rfl (lv_at hl 4 rfl) ?_
                refine lv_iload hx hb gX12_laysPrices_4.1 (lv_at hl 1 rfl) ?_
                refine lv_iload hx hb gX12_laysPrices_4.2.1 (lv_at hl 0 rfl) ?_
                refine th_call (th_runV (As := [.int j2_2, .int x4, .int x5]) (rest := [.int x8, .ref b6]) hC mf_X12_isBarred km_X12_156 im_X12_isBarred se_X12_isBarred (c_X12_isBarred l G Γ H12 hB.1 hU a0 h0 hR j2_2 (by omega) (by omega) x4 x5) rfl rfl ⟨Nat.le_of_ble_eq_true rfl, Nat.le_of_ble_eq_true rfl⟩ hB.1 h0 ro_46 rfl rfl hl.1 rfl (Nat.le_of_ble_eq_true rfl) gX12_laysPrices_4.2.2.1 ⟨Nat.le_refl _, Nat.le_refl _⟩) hB.2.1 (fun v56 H56 locs hp hz hS => ?_)
                obtain ⟨x9, rfl, lx9, ux9, hI1, hf, hR, z56_0⟩ := hp
                have hB := th_B_c hB hI1 hS hf (by decide)
                have mm10 := (th_F_o hf h0 ro_46 (j := 34) (by decide) (by decide)).trans mb6
                replace hF := hF.trans (congrArg (dv_k f_X12_laysPrices_2b) (congrArg (dv_k f_X12_laysPrices_12b) (dv_bn2 (z56_0))))
                refine W.eq (g2 := F0 m 59 ls [.int x9, .int x8, .ref b6]) rfl ?_
                refine tr_if_eq (tgt := 66) hx hb gX12_laysPrices_4.2.2.2.1 (by decide) (Eq.refl _) (fun c59 => ?_) (fun c59 => ?_)
                · replace hF := hF.trans (congrArg (dv_k f_X12_laysPrices_2b) (congrArg (dv_k f_X12_laysPrices_12b) (if_pos c59)))
                  refine lv_aload_n hx hb gX12_laysPrices_4.2.2.2.2.2.2.1 rfl (lv_at hl 2 rfl) ?_
                  refine lv_iload_n hx hb gX12_laysPrices_4.2.2.2.2.2.2.2 rfl (lv_at hl 4 rfl) ?_
                  refine lv_iload hx hb gX12_laysPrices_5.1 (lv_at hl 1 rfl) ?_
                  refine lv_iload hx hb gX12_laysPrices_5.2.1 (lv_at hl 0 rfl) ?_
                  refine th_call (th_runV (As := [.int j2_2, .int x4, .int x5]) (rest := [.int x8, .ref b6]) hC mf_X12_costsAt km_X12_152 im_X12_costsAt se_X12_costsAt (c_X12_costsAt l G Γ H56 hB.1 hU a0 h0 hR j2_2 (by omega) (by omega) x4 x5) rfl rfl ⟨Nat.le_of_ble_eq_true rfl, Nat.le_of_ble_eq_true rfl⟩ hB.1 h0 ro_46 rfl rfl hl.1 rfl (Nat.le_of_ble_eq_true rfl) gX12_laysPrices_5.2.2.1 ⟨Nat.le_refl _, Nat.le_refl _⟩) hB.2.1 (fun v72 H72 locs hp hz hS => ?_)
                  obtain ⟨x11, rfl, lx11, ux11, hI1, hf, hR, z72_0⟩ := hp
                  have hB := th_B_c hB hI1 hS hf (by decide)
                  have mm12 := (th_F_o hf h0 ro_46 (j := 34) (by decide) (by decide)).trans mm10
                  replace hF := hF.trans (congrArg (dv_k f_X12_laysPrices_2b) (congrArg (dv_k f_X12_laysPrices_12b) (dv_bn2 (z72_0))))
                  refine W.eq (g2 := F0 m 75 ls [.int x11, .int x8, .ref b6]) rfl ?_
                  have hIo := hB.1
                  refine th_iastF hC hB hb6 (Or.inl hb6) ro_63 rfl (by decide) (Eq.refl _) (by omega) (by omega) th_sIa gX12_laysPrices_5.2.2.2.1 (fun H75 locs hB hf75 hst75 => ?_)
                  have hf := hf75
                  have mm13 := (th_F_o hf h0 ro_46 (j := 34) (by decide) (by decide)).trans mm12
                  have hR := th_RE_F hB.1 hR h0 hf (th_T_s hb6 ro_63 hst75) (by decide)
                  replace hF := hF.trans (congrArg (dv_k f_X12_laysPrices_2b) (congrArg (dv_k f_X12_laysPrices_12b) (dv_bn (dv_stoI hIo hB.1 hU hb6 ow_63 (i := x8.toInt) hst75 (Eq.refl _) (by omega)))))
                  refine tr_iinc (fun x14 => [(3, .int x14), (5, .int x5), (4, .int x4), (0, .ref a0), (1, .int p1), (2, .int j2_2)]) hx hb gX12_laysPrices_5.2.2.2.2.1 hl (k := 5) rfl (Eq.refl _) tk_1 (by omega) (by omega) (by decide) (fun _ => rfl) (fun x14 ls ex14 hl => ?_)
                  replace hF := hF.trans (congrArg (dv_k f_X12_laysPrices_2b) (congrArg (dv_k f_X12_laysPrices_12b) (dv_bn (ex14.symm))))
                  refine lv_goto (tgt := 12) hx hb gX12_laysPrices_5.2.2.2.2.2.1 (by decide) ?_
                  replace hF := hF.trans (congrArg (dv_k f_X12_laysPrices_2b) (dv_kl))
                  exact ih12 H75 locs ls x14 hB hR (lv_sub hl [3, 4, 5, 0] rfl) hF (by omega) (by omega) (by omega)
                · replace hF := hF.trans (congrArg (dv_k f_X12_laysPrices_2b) (congrArg (dv_k f_X12_laysPrices_12b) (if_neg c59)))
                  refine lv_iconst (v := (-1)) hx hb gX12_laysPrices_4.2.2.2.2.1 (by decide) ?_
                  refine lv_goto (tgt := 75) hx hb gX12_laysPrices_4.2.2.2.2.2.1 (by decide) ?_
                  have hIo := hB.1
                  refine th_iastF hC hB hb6 (Or.inl hb6) ro_63 rfl (by decide) (Eq.refl _) (by omega) (by omega) th_sIa gX12_laysPrices_5.2.2.2.1 (fun H75 locs hB hf75 hst75 => ?_)
                  have hf := hf75
                  have mm15 := (th_F_o hf h0 ro_46 (j := 34) (by decide) (by decide)).trans mm10
                  have hR := th_RE_F hB.1 hR h0 hf (th_T_s hb6 ro_63 hst75) (by decide)
                  replace hF := hF.trans (congrArg (dv_k f_X12_laysPrices_2b) (congrArg (dv_k f_X12_laysPrices_12b) (dv_bn (dv_stoI hIo hB.1 hU hb6 ow_63 (i := x8.toInt) hst75 tk_m1 (by omega)))))
                  refine tr_iinc (fun x16 => [(3, .int x16), (5, .int x5), (4, .int x4), (0, .ref a0), (1, .int p1), (2, .int j2_2)]) hx hb gX12_laysPrices_5.2.2.2.2.1 hl (k := 5) rfl (Eq.refl _) tk_1 (by omega) (by omega) (by decide) (fun _ => rfl) (fun x16 ls ex16 hl => ?_)
                  replace hF := hF.trans (congrArg (dv_k f_X12_laysPrices_2b) (congrArg (dv_k f_X12_laysPrices_12b) (dv_bn (ex16.symm))))
                  refine lv_goto (tgt := 12) hx hb gX12_laysPrices_5.2.2.2.2.2.1 (by decide) ?_
                  replace hF := hF.trans (congrArg (dv_k f_X12_laysPrices_2b) (dv_kl))
                  exact ih12 H75 locs ls x16 hB hR (lv_sub hl [3, 4, 5, 0] rfl) hF (by omega) (by omega) (by omega)
        exact lp12 ((2147483648 : Int) - (0)).toNat H2 locs ls 0 hB hR (lv_sub hl [1, 2, 3, 0] rfl) (by rw [tk_0]; exact hF) (by decide) (by decide) (by have w0 := tk_0; omega)
  exact lp2 ((2147483648 : Int) - (0)).toNat H0 [] ls 0 hB hR (lv_sub hl [1, 2, 0] rfl) (by rw [tk_0]; exact hF) (by decide) (by decide) (by have w0 := tk_0; omega)

set_option maxHeartbeats 4000000 in
set_option maxRecDepth 100000 in
theorem c_X12_countsRow (l : Launch) (G : th_G) (Γ : th_Ga) (H0 : Heap) (hI : th_I G Γ H0) (hR : th_RC G Γ H0) (hU : dv_U Γ) (a0 : Nat) (h0 : Γ a0 = (46, 0)) (p1 : Int32) (f1 : 0 ≤ p1.toInt) (g1 : p1.toInt ≤ 9) (k1 : mo_rw G H0 a0 p1.toInt) : Met l yX12_countsRow (.code yX12_countsRow cX12_countsRow 5 (none) :: th_tb) ({ frames := 0, cells := 0, slots := 0, locals := 0 } : Room) (th_P [.ref a0, .int p1] G H0) (th_Q (fun (v : Option Value) (H1 : Heap) => v = none ∧ th_I G Γ H1 ∧ th_F G Γ [(67, 0)] H0 H1 ∧ th_RC G Γ H1 ∧ (f_X12_countsRow (dv G Γ H0) (a0 : Int) p1.toInt = (dv G Γ H1, 0))) G) 0 0 (fun q => G.1.2.2 ≤ q) := by
  refine th_met RX12 (by decide) rfl (Nat.le_of_ble_eq_true rfl) ?_
  intro p e s m below meth c hC hH hr hlocks hnm ls hl
  have hx := hC.1
  have hb := hC.2.1
  have hB : th_B G Γ Γ [(67, 0)] H0 H0 [] := ⟨hI, va_S.rf, th_F_rf⟩
  have hl : lv_has ls 5 [(0, .ref a0), (1, .int p1)] := hl
  have lp1 := ti_lo p1; have up1 := ti_hi p1
  obtain ⟨F, hF0⟩ : ∃ F, F = f_X12_countsRow (dv G Γ H0) ((a0 : Int)) (p1.toInt) := ⟨_, rfl⟩
  have hF := hF0.trans (f_X12_countsRow.eq_1 (dv G Γ H0) ((a0 : Int)) (p1.toInt))
  refine lv_iconst (v := 0) hx hb gX12_countsRow_0.1 (by decide) ?_
  refine lv_istore_n (lv' := [(2, .int 0), (0, .ref a0), (1, .int p1)]) hx hb gX12_countsRow_0.2.1 rfl hl (by decide) rfl (fun ls hl => ?_)
  have lp2 : ∀ (n2 : Nat) (H2 : Heap) (locs : List Loc) (ls : Array Slot) (j2_2 : Int32), th_B G Γ Γ [(67, 0)] H0 H2 locs → th_RC G Γ H2 → lv_has ls 5 [(0, .ref a0), (1, .int p1), (2, .int j2_2)] → F = dv_lp f_X12_countsRow_2b (dv G Γ H2, (a0 : Int), p1.toInt, j2_2.toInt) → 0 ≤ j2_2.toInt → j2_2.toInt ≤ 9 → (2147483648 : Int) - j2_2.toInt ≤ (n2 : Int) → W p l e ({ frames := 0, cells := 0, slots := 0, locals := 0 } : Room) s m ([.ref a0, .int p1] : List Value).toArray below meth c H2 locs 0 0 (MQ below (th_Q (fun (v : Option Value) (H1 : Heap) => v = none ∧ th_I G Γ H1 ∧ th_F G Γ [(67, 0)] H0 H1 ∧ th_RC G Γ H1 ∧ (f_X12_countsRow (dv G Γ H0) (a0 : Int) p1.toInt = (dv G Γ H1, 0))) G) ([.ref a0, .int p1] : List Value).toArray s 0 0 (fun q => G.1.2.2 ≤ q)) (F0 m 2 ls []) := by
    intro n2
    induction n2 with
    | zero => intro H2 locs ls j2_2 hB hR hl hF g2_0 g2_1 hm2; exact absurd hm2 (by have := ti_hi j2_2; omega)
    | succ n2 ih2 =>
      intro H2 locs ls j2_2 hB hR hl hF g2_0 g2_1 hm2
      have lj2_2 := ti_lo j2_2; have uj2_2 := ti_hi j2_2
      have vw_H2_2 : mo_v G H2 a0 2 = mo_v G H0 a0 2 := mo_v_F (r := 48) hB.1 hB.2.2 h0 rfl ro_48 (by decide) (by decide)
      have vw_H2_35 : mo_v G H2 a0 35 = mo_v G H0 a0 35 := mo_v_F (r := 64) hB.1 hB.2.2 h0 rfl ro_64 (by decide) (by decide)
      have vw_H2_36 : mo_v G H2 a0 36 = mo_v G H0 a0 36 := mo_v_F (r := 65) hB.1 hB.2.2 h0 rfl ro_65 (by decide) (by decide)
      have hm2 : (2147483648 : Int) - j2_2.toInt ≤ (n2 : Int) + 1 := by omega
      replace hF := hF.trans (dv_lp_eq)
      replace hF := hF.trans (congrArg (dv_k f_X12_countsRow_2b) (f_X12_countsRow_2c.eq_1 (dv G Γ H2) ((a0 : Int)) (p1.toInt) (j2_2.toInt)))
      refine lv_iload_n hx hb gX12_countsRow_0.2.2.1 rfl (lv_at hl 2 rfl) ?_
      refine lv_iload_n hx hb gX12_countsRow_0.2.2.2.1 rfl (lv_at hl 1 rfl) ?_
      refine tr_icmp_ge (tgt := 83) hx hb gX12_countsRow_0.2.2.2.2.1 (by decide) (Eq.refl _) (Eq.refl _) (fun c4 => ?_) (fun c4 => ?_)
      · replace hF := hF.trans (congrArg (dv_k f_X12_countsRow_2b) (if_pos c4))
        replace hF := hF.trans (dv_kr)
        exact th_vret hC hH hr hlocks hB.2.1 ⟨rfl, hB.1, hB.2.2, hR, (hF0.symm.trans hF)⟩ gX12_countsRow_6.2.2.2.2.2.2
      · replace hF := hF.trans (congrArg (dv_k f_X12_countsRow_2b) (if_neg (Int.not_le.mpr c4)))
        refine lv_aload_n hx hb gX12_countsRow_0.2.2.2.2.2.1 rfl (lv_at hl 0 rfl) ?_
        refine th_getO (j := 2) (r2 := 48) hC cf_X12 hB.1 h0 ro_46 rfl rfl kf_X12_28 gX12_countsRow_0.2.2.2.2.2.2.1 (fun b1 mb1 hb1 => ?_)
        have sb1 := (th_F_o hB.2.2 h0 ro_46 (j := 2) (by decide) (by decide)).symm.trans mb1
        refine lv_bipush (v := 29) hx hb gX12_countsRow_0.2.2.2.2.2.2.2 (by decide) ?_
        refine lv_aload_n hx hb gX12_countsRow_1.1 rfl (lv_at hl 0 rfl) ?_
        refine th_getO (j := 35) (r2 := 64) hC cf_X12 hB.1 h0 ro_46 rfl rfl kf_X12_81 gX12_countsRow_1.2.1 (fun b2 mb2 hb2 => ?_)
        have sb2 := (th_F_o hB.2.2 h0 ro_46 (j := 35) (by decide) (by decide)).symm.trans mb2
        refine lv_iload_n hx hb gX12_countsRow_1.2.2.1 rfl (lv_at hl 2 rfl) ?_
        refine th_ialdF hC hB.1 hb2 ro_64 rfl (Eq.refl _) (by omega) (by omega) rfl gX12_countsRow_1.2.2.2.1 (fun x3 mx3 lx3 ux3 => ?_)
        replace hF := hF.trans (congrArg (dv_k f_X12_countsRow_2b) (dv_bn (dv_aldI hB.1 hU hb2 ow_64 (z := j2_2.toInt) mx3 (by omega))))
        have vgx3 : mo_v G H0 a0 35 j2_2.toInt = x3.toInt := by rw [← (mo_v_F (r := 64) hB.1 hB.2.2 h0 rfl ro_64 (by decide) (by decide) : mo_v G H2 a0 35 = _)]; rw [show (j2_2.toInt : Int) = j2_2.toInt by omega]; exact mo_vat mb2 mx3 (by omega)
        refine tr_iadd hx hb gX12_countsRow_1.2.2.2.2.1 tk_29 (Eq.refl _) (by omega) (by omega) (fun x4 ex4 => ?_)
        replace hF := hF.trans (congrArg (dv_k f_X12_countsRow_2b) (dv_bn (ex4.symm)))
        refine th_ialdF hC hB.1 hb1 ro_48 rfl (Eq.refl _) (by omega) (by omega) (ek_side (by omega) (by omega)) gX12_countsRow_1.2.2.2.2.2.1 (fun x5 mx5 lx5 ux5 => ?_)
        replace hF := hF.trans (congrArg (dv_k f_X12_countsRow_2b) (dv_bn (dv_aldI hB.1 hU hb1 ow_48 (z := x4.toInt) mx5 (by omega))))
        have vgx5 : mo_v G H0 a0 2 (29 + x3.toInt) = x5.toInt := by rw [← (mo_v_F (r := 48) hB.1 hB.2.2 h0 rfl ro_48 (by decide) (by decide) : mo_v G H2 a0 2 = _)]; rw [show ((29 + x3.toInt) : Int) = x4.toInt by omega]; exact mo_vat mb1 mx5 (by omega)
        refine lv_istore_n (lv' := [(3, .int x5), (0, .ref a0), (1, .int p1), (2, .int j2_2)]) hx hb gX12_countsRow_1.2.2.2.2.2.2.1 rfl hl (by decide) rfl (fun ls hl => ?_)
        refine lv_iconst (v := 0) hx hb gX12_countsRow_1.2.2.2.2.2.2.2 (by decide) ?_
        refine lv_istore (lv' := [(4, .int 0), (3, .int x5), (0, .ref a0), (1, .int p1), (2, .int j2_2)]) hx hb gX12_countsRow_2.1 hl (by decide) rfl (fun ls hl => ?_)
        have lp25 : ∀ (n25 : Nat) (H25 : Heap) (locs : List Loc) (ls : Array Slot) (j25_4 : Int32), th_B G Γ Γ [(67, 0)] H0 H25 locs → th_RC G Γ H25 → lv_has ls 5 [(3, .int x5), (0, .ref a0), (1, .int p1), (2, .int j2_2), (4, .int j25_4)] → F = dv_k f_X12_countsRow_2b (dv_lp f_X12_countsRow_25b (dv G Γ H25, x5.toInt, (a0 : Int), p1.toInt, j2_2.toInt, j25_4.toInt)) → 0 ≤ j25_4.toInt → j25_4.toInt ≤ 144 → (2147483648 : Int) - j25_4.toInt ≤ (n25 : Int) → W p l e ({ frames := 0, cells := 0, slots := 0, locals := 0 } : Room) s m ([.ref a0, .int p1] : List Value).toArray below meth c H25 locs 0 0 (MQ below (th_Q (fun (v : Option Value) (H1 : Heap) => v = none ∧ th_I G Γ H1 ∧ th_F G Γ [(67, 0)] H0 H1 ∧ th_RC G Γ H1 ∧ (f_X12_countsRow (dv G Γ H0) (a0 : Int) p1.toInt = (dv G Γ H1, 0))) G) ([.ref a0, .int p1] : List Value).toArray s 0 0 (fun q => G.1.2.2 ≤ q)) (F0 m 25 ls []) := by
          intro n25
          induction n25 with
          | zero => intro H25 locs ls j25_4 hB hR hl hF g25_0 g25_1 hm25; exact absurd hm25 (by have := ti_hi j25_4; omega)
          | succ n25 ih25 =>
            intro H25 locs ls j25_4 hB hR hl hF g25_0 g25_1 hm25
            have lj25_4 := ti_lo j25_4; have uj25_4 := ti_hi j25_4
            have mm6 := (th_F_o hB.2.2 h0 ro_46 (j := 2) (by decide) (by decide)).trans sb1
            have mm7 := (th_F_o hB.2.2 h0 ro_46 (j := 35) (by decide) (by decide)).trans sb2
            have vw_H25_2 : mo_v G H25 a0 2 = mo_v G H0 a0 2 := mo_v_F (r := 48) hB.1 hB.2.2 h0 rfl ro_48 (by decide) (by decide)
            have vw_H25_35 : mo_v G H25 a0 35 = mo_v G H0 a0 35 := mo_v_F (r := 64) hB.1 hB.2.2 h0 rfl ro_64 (by decide) (by decide)
            have vw_H25_36 : mo_v G H25 a0 36 = mo_v G H0 a0 36 := mo_v_F (r := 65) hB.1 hB.2.2 h0 rfl ro_65 (by decide) (by decide)
            have hm25 : (2147483648 : Int) - j25_4.toInt ≤ (n25 : Int) + 1 := by omega
            replace hF := hF.trans (congrArg (dv_k f_X12_countsRow_2b) (dv_lp_eq))
            replace hF := hF.trans (congrArg (dv_k f_X12_countsRow_2b) (congrArg (dv_k f_X12_countsRow_25b) (f_X12_countsRow_25c.eq_1 (dv G Γ H25) (x5.toInt) ((a0 : Int)) (p1.toInt) (j2_2.toInt) (j25_4.toInt))))
            refine lv_iload hx hb gX12_countsRow_2.2.1 (lv_at hl 4 rfl) ?_
            refine lv_iload_n hx hb gX12_countsRow_2.2.2.1 rfl (lv_at hl 0 rfl) ?_
            refine lv_iload_n hx hb gX12_countsRow_2.2.2.2.1 rfl (lv_at hl 0 rfl) ?_
            have q9 := ti_mulr (a := x5.toInt) (b := x5.toInt) (A := 12) (B := 12) (by omega) (by omega) (by omega) (by omega)
            generalize hex8 : x5.toInt * x5.toInt = wx8 at q9
            refine tr_imul hx hb gX12_countsRow_2.2.2.2.2.1 (Eq.refl _) (Eq.refl _) (by rw [hex8]; omega) (by rw [hex8]; omega) (fun x8 ex8 => ?_)
            rw [hex8] at ex8
            replace hF := hF.trans (congrArg (dv_k f_X12_countsRow_2b) (congrArg (dv_k f_X12_countsRow_25b) (dv_bn (hex8.trans ex8.symm))))
            refine tr_icmp_ge (tgt := 77) hx hb gX12_countsRow_2.2.2.2.2.2.1 (by decide) (Eq.refl _) (Eq.refl _) (fun c30 => ?_) (fun c30 => ?_)
            · replace hF := hF.trans (congrArg (dv_k f_X12_countsRow_2b) (congrArg (dv_k f_X12_countsRow_25b) (if_pos c30)))
              refine tr_iinc (fun x10 => [(2, .int x10), (3, .int x5), (0, .ref a0), (1, .int p1), (4, .int j25_4)]) hx hb gX12_countsRow_6.2.2.2.2.1 hl (k := 3) rfl (Eq.refl _) tk_1 (by omega) (by omega) (by decide) (fun _ => rfl) (fun x10 ls ex10 hl => ?_)
              replace hF := hF.trans (congrArg (dv_k f_X12_countsRow_2b) (congrArg (dv_k f_X12_countsRow_25b) (dv_bn (ex10.symm))))
              refine lv_goto (tgt := 2) hx hb gX12_countsRow_6.2.2.2.2.2.1 (by decide) ?_
              replace hF := hF.trans (congrArg (dv_k f_X12_countsRow_2b) (dv_kr))
              replace hF := hF.trans (dv_kl)
              exact ih2 H25 locs ls x10 hB hR (lv_sub hl [2, 3, 0] rfl) hF (by omega) (by omega) (by omega)
            · replace hF := hF.trans (congrArg (dv_k f_X12_countsRow_2b) (congrArg (dv_k f_X12_countsRow_25b) (if_neg (Int.not_le.mpr c30))))
              refine lv_aload_n hx hb gX12_countsRow_2.2.2.2.2.2.2.1 rfl (lv_at hl 1 rfl) ?_
              have f33 : 1 ≤ x5.toInt := by
                rcases Int.lt_or_le 0 x5.toInt with h9 | h9
                · omega
                · have h8 : x5.toInt = 0 := by omega
                  rw [h8, Int.zero_mul] at hex8
                  omega
              refine th_getO (j := 38) (r2 := 67) hC cf_X12 hB.1 h0 ro_46 rfl rfl kf_X12_90 gX12_countsRow_2.2.2.2.2.2.2.2 (fun b11 mb11 hb11 => ?_)
              have sb11 := (th_F_o hB.2.2 h0 ro_46 (j := 38) (by decide) (by decide)).symm.trans mb11
              refine lv_bipush (v := 9) hx hb gX12_countsRow_3.1 (by decide) ?_
              refine lv_aload_n hx hb gX12_countsRow_3.2.1 rfl (lv_at hl 1 rfl) ?_
              refine th_getO (j := 36) (r2 := 65) hC cf_X12 hB.1 h0 ro_46 rfl rfl kf_X12_84 gX12_countsRow_3.2.2.1 (fun b12 mb12 hb12 => ?_)
              have sb12 := (th_F_o hB.2.2 h0 ro_46 (j := 36) (by decide) (by decide)).symm.trans mb12
              refine lv_iload_n hx hb gX12_countsRow_3.2.2.2.1 rfl (lv_at hl 3 rfl) ?_
              refine th_ialdF hC hB.1 hb12 ro_65 rfl (Eq.refl _) (by omega) (by omega) rfl gX12_countsRow_3.2.2.2.2.1 (fun x13 mx13 lx13 ux13 => ?_)
              replace hF := hF.trans (congrArg (dv_k f_X12_countsRow_2b) (congrArg (dv_k f_X12_countsRow_25b) (dv_bn (dv_aldI hB.1 hU hb12 ow_65 (z := j2_2.toInt) mx13 (by omega)))))
              have vgx13 : mo_v G H0 a0 36 j2_2.toInt = x13.toInt := by rw [← (mo_v_F (r := 65) hB.1 hB.2.2 h0 rfl ro_65 (by decide) (by decide) : mo_v G H25 a0 36 = _)]; rw [show (j2_2.toInt : Int) = j2_2.toInt by omega]; exact mo_vat mb12 mx13 (by omega)
              have fx := k1 j2_2.toInt (by omega) (by omega)
              rw [vgx13, vgx3, vgx5] at fx
              refine lv_iload hx hb gX12_countsRow_3.2.2.2.2.2.1 (lv_at hl 4 rfl) ?_
              refine lv_iload_n hx hb gX12_countsRow_3.2.2.2.2.2.2.1 rfl (lv_at hl 0 rfl) ?_
              refine tr_idiv hx hb gX12_countsRow_3.2.2.2.2.2.2.2 (Eq.refl _) (Eq.refl _) (by omega) (by omega) (fun x14 ex14 => ?_)
              have fx14 := ti_divb (a := j25_4.toInt) (b := x5.toInt) (by omega) (by omega)
              rw [← ex14] at fx14
              replace hF := hF.trans (congrArg (dv_k f_X12_countsRow_2b) (congrArg (dv_k f_X12_countsRow_25b) (dv_bn (ex14.symm))))
              have f48 : x14.toInt < x5.toInt := by rw [ex14]; exact mo_dl (by omega) (by omega)
              refine lv_bipush (v := 12) hx hb gX12_countsRow_4.1 (by decide) ?_
              refine tr_imul hx hb gX12_countsRow_4.2.1 (Eq.refl _) tk_12 (by omega) (by omega) (fun x15 ex15 => ?_)
              replace hF := hF.trans (congrArg (dv_k f_X12_countsRow_2b) (congrArg (dv_k f_X12_countsRow_25b) (dv_bn (ex15.symm))))
              refine tr_iadd hx hb gX12_countsRow_4.2.2.1 (Eq.refl _) (Eq.refl _) (by omega) (by omega) (fun x16 ex16 => ?_)
              replace hF := hF.trans (congrArg (dv_k f_X12_countsRow_2b) (congrArg (dv_k f_X12_countsRow_25b) (dv_bn (ex16.symm))))
              refine lv_iload hx hb gX12_countsRow_4.2.2.2.1 (lv_at hl 4 rfl) ?_
              refine lv_iload_n hx hb gX12_countsRow_4.2.2.2.2.1 rfl (lv_at hl 0 rfl) ?_
              refine tr_irem hx hb gX12_countsRow_4.2.2.2.2.2.1 (Eq.refl _) (Eq.refl _) (by omega) (by omega) (fun x17 ex17 => ?_)
              have fx17 := ti_remb (a := j25_4.toInt) (b := x5.toInt) (by omega) (by omega)
              rw [← ex17] at fx17
              replace hF := hF.trans (congrArg (dv_k f_X12_countsRow_2b) (congrArg (dv_k f_X12_countsRow_25b) (dv_bn (ex17.symm))))
              refine tr_iadd hx hb gX12_countsRow_4.2.2.2.2.2.2.1 (Eq.refl _) (Eq.refl _) (by omega) (by omega) (fun x18 ex18 => ?_)
              replace hF := hF.trans (congrArg (dv_k f_X12_countsRow_2b) (congrArg (dv_k f_X12_countsRow_25b) (dv_bn (ex18.symm))))
              refine tr_imul hx hb gX12_countsRow_4.2.2.2.2.2.2.2 tk_9 (Eq.refl _) (by omega) (by omega) (fun x19 ex19 => ?_)
              replace hF := hF.trans (congrArg (dv_k f_X12_countsRow_2b) (congrArg (dv_k f_X12_countsRow_25b) (dv_bn (ex19.symm))))
              refine lv_aload_n hx hb gX12_countsRow_5.1 rfl (lv_at hl 1 rfl) ?_
              refine th_getK hC cf_X12 hB.1 h0 ro_46 rfl (j := 35) (by decide) mm7 kf_X12_81 gX12_countsRow_5.2.1 ?_
              refine lv_iload_n hx hb gX12_countsRow_5.2.2.1 rfl (lv_at hl 3 rfl) ?_
              refine th_ialdF hC hB.1 hb2 ro_64 rfl (Eq.refl _) (by omega) (by omega) rfl gX12_countsRow_5.2.2.2.1 (fun x20 mx20 lx20 ux20 => ?_)
              replace hF := hF.trans (congrArg (dv_k f_X12_countsRow_2b) (congrArg (dv_k f_X12_countsRow_25b) (dv_bn (dv_aldI hB.1 hU hb2 ow_64 (z := j2_2.toInt) mx20 (by omega)))))
              have vgx20 : mo_v G H0 a0 35 j2_2.toInt = x20.toInt := by rw [← (mo_v_F (r := 64) hB.1 hB.2.2 h0 rfl ro_64 (by decide) (by decide) : mo_v G H25 a0 35 = _)]; rw [show (j2_2.toInt : Int) = j2_2.toInt by omega]; exact mo_vat mm7 mx20 (by omega)
              refine tr_iadd hx hb gX12_countsRow_5.2.2.2.2.1 (Eq.refl _) (Eq.refl _) (by omega) (by omega) (fun x21 ex21 => ?_)
              replace hF := hF.trans (congrArg (dv_k f_X12_countsRow_2b) (congrArg (dv_k f_X12_countsRow_25b) (dv_bn (ex21.symm))))
              refine lv_dup2_11 hx hb gX12_countsRow_5.2.2.2.2.2.1 rfl rfl ?_
              refine th_ialdF hC hB.1 hb11 ro_67 rfl (Eq.refl _) (by omega) (by omega) rfl gX12_countsRow_5.2.2.2.2.2.2.1 (fun x22 mx22 lx22 ux22 => ?_)
              replace hF := hF.trans (congrArg (dv_k f_X12_countsRow_2b) (congrArg (dv_k f_X12_countsRow_25b) (dv_bn (dv_aldI hB.1 hU hb11 ow_67 (z := x21.toInt) mx22 (by omega)))))
              refine lv_iconst (v := 1) hx hb gX12_countsRow_5.2.2.2.2.2.2.2 (by decide) ?_
              refine lv_iadd hx hb gX12_countsRow_6.1 ?_
              refine lv_topi (fun x23 ex23 => ?_)
              have lx23 := ti_lo x23; have ux23 := ti_hi x23
              replace hF := hF.trans (congrArg (dv_k f_X12_countsRow_2b) (congrArg (dv_k f_X12_countsRow_25b) (dv_bn (dv_add_e (Eq.refl _) tk_1 ex23))))
              have hIo := hB.1
              refine th_iastF hC hB hb11 (Or.inl hb11) ro_67 rfl (by decide) (Eq.refl _) (by omega) (by omega) th_sIa gX12_countsRow_6.2.1 (fun H70 locs hB hf70 hst70 => ?_)
              have hf := hf70
              have mm24 := (th_F_o hf h0 ro_46 (j := 2) (by decide) (by decide)).trans mm6
              have mm25 := (th_F_o hf h0 ro_46 (j := 35) (by decide) (by decide)).trans mm7
              have mm26 := (th_F_o hf h0 ro_46 (j := 38) (by decide) (by decide)).trans mb11
              have mm27 := (th_F_o hf h0 ro_46 (j := 36) (by decide) (by decide)).trans mb12
              have hR := th_RC_F hB.1 hR hf (th_T_s hb11 ro_67 hst70) (by decide)
              have vv_H70_2 : mo_v G H70 a0 2 = mo_v G H25 a0 2 := mo_v_F (r := 48) hB.1 hf h0 rfl ro_48 (by decide) (by decide)
              have vv_H70_35 : mo_v G H70 a0 35 = mo_v G H25 a0 35 := mo_v_F (r := 64) hB.1 hf h0 rfl ro_64 (by decide) (by decide)
              have vv_H70_36 : mo_v G H70 a0 36 = mo_v G H25 a0 36 := mo_v_F (r := 65) hB.1 hf h0 rfl ro_65 (by decide) (by decide)
              replace hF := hF.trans (congrArg (dv_k f_X12_countsRow_2b) (congrArg (dv_k f_X12_countsRow_25b) (dv_bn (dv_stoI hIo hB.1 hU hb11 ow_67 (i := x21.toInt) hst70 (Eq.refl _) (by omega)))))
              refine tr_iinc (fun x28 => [(4, .int x28), (3, .int x5), (0, .ref a0), (1, .int p1), (2, .int j2_2)]) hx hb gX12_countsRow_6.2.2.1 hl (k := 4) rfl (Eq.refl _) tk_1 (by omega) (by omega) (by decide) (fun _ => rfl) (fun x28 ls ex28 hl => ?_)
              replace hF := hF.trans (congrArg (dv_k f_X12_countsRow_2b) (congrArg (dv_k f_X12_countsRow_25b) (dv_bn (ex28.symm))))
              refine lv_goto (tgt := 25) hx hb gX12_countsRow_6.2.2.2.1 (by decide) ?_
              replace hF := hF.trans (congrArg (dv_k f_X12_countsRow_2b) (dv_kl))
              exact ih25 H70 locs ls x28 hB hR (lv_sub hl [1, 2, 3, 4, 0] rfl) hF (by omega) (by omega) (by omega)
        exact lp25 ((2147483648 : Int) - (0)).toNat H2 locs ls 0 hB hR (lv_sub hl [1, 2, 3, 4, 0] rfl) (by rw [tk_0]; exact hF) (by decide) (by decide) (by have w0 := tk_0; omega)
  exact lp2 ((2147483648 : Int) - (0)).toNat H0 [] ls 0 hB hR (lv_sub hl [1, 2, 0] rfl) (by rw [tk_0]; exact hF) (by decide) (by decide) (by have w0 := tk_0; omega)

set_option maxHeartbeats 4000000 in
set_option maxRecDepth 100000 in
theorem c_X12_fills (l : Launch) (G : th_G) (Γ : th_Ga) (H0 : Heap) (hI : th_I G Γ H0) (hR : th_RC G Γ H0) (hU : dv_U Γ) (a0 : Nat) (h0 : Γ a0 = (46, 0)) (p1 : Int32) (f1 : 0 ≤ p1.toInt) (g1 : p1.toInt ≤ 9) (p2 : Int32) (k1 : mo_rw G H0 a0 p1.toInt) : Met l yX12_fills (.code yX12_fills cX12_fills 4 (none) :: th_tb) ({ frames := 5, cells := 0, slots := 0, locals := 120 } : Room) (th_P [.ref a0, .int p1, .int p2] G H0) (th_Q (fun (v : Option Value) (H1 : Heap) => v = none ∧ th_I G Γ H1 ∧ th_F G Γ [(46, 41), (46, 42), (46, 43), (67, 0), (66, 0)] H0 H1 ∧ th_RC G Γ H1 ∧ (f_X12_fills (dv G Γ H0) (a0 : Int) p1.toInt p2.toInt = (dv G Γ H1, 0))) G) 0 0 (fun q => G.1.2.2 ≤ q) := by
  refine th_met RX12 (by decide) rfl (Nat.le_of_ble_eq_true rfl) ?_
  intro p e s m below meth c hC hH hr hlocks hnm ls hl
  have hx := hC.1
  have hb := hC.2.1
  have hB : th_B G Γ Γ [(46, 41), (46, 42), (46, 43), (67, 0), (66, 0)] H0 H0 [] := ⟨hI, va_S.rf, th_F_rf⟩
  have hl : lv_has ls 4 [(0, .ref a0), (1, .int p1), (2, .int p2)] := hl
  have lp1 := ti_lo p1; have up1 := ti_hi p1
  have lp2 := ti_lo p2; have up2 := ti_hi p2
  obtain ⟨F, hF0⟩ : ∃ F, F = f_X12_fills (dv G Γ H0) ((a0 : Int)) (p1.toInt) (p2.toInt) := ⟨_, rfl⟩
  have hF := hF0.trans (f_X12_fills.eq_1 (dv G Γ H0) ((a0 : Int)) (p1.toInt) (p2.toInt))
  refine lv_aload_n hx hb gX12_fills_0.1 rfl (lv_at hl 0 rfl) ?_
  refine th_getI (j := 44) hC cf_X12 hB.1 h0 ro_46 rfl rfl kf_X12_400 gX12_fills_0.2.1 (fun x1 mx1 lx1 ux1 => ?_)
  replace hF := hF.trans (dv_bn (dv_getI h0 ro_46 (j := 44) rfl mx1 (by decide)))
  have jn16 : ∀ (locs : List Loc) (ls : Array Slot) , th_B G Γ Γ [(46, 41), (46, 42), (46, 43), (67, 0), (66, 0)] H0 H0 locs → lv_has ls 4 [(0, .ref a0), (1, .int p1), (2, .int p2)] → F = f_X12_fills_16 (dv G Γ H0) ((a0 : Int)) (p1.toInt) (p2.toInt) → W p l e ({ frames := 5, cells := 0, slots := 0, locals := 120 } : Room) s m ([.ref a0, .int p1, .int p2] : List Value).toArray below meth c H0 locs 0 0 (MQ below (th_Q (fun (v : Option Value) (H1 : Heap) => v = none ∧ th_I G Γ H1 ∧ th_F G Γ [(46, 41), (46, 42), (46, 43), (67, 0), (66, 0)] H0 H1 ∧ th_RC G Γ H1 ∧ (f_X12_fills (dv G Γ H0) (a0 : Int) p1.toInt p2.toInt = (dv G Γ H1, 0))) G) ([.ref a0, .int p1, .int p2] : List Value).toArray s 0 0 (fun q => G.1.2.2 ≤ q)) (F0 m 16 ls []) := by
    intro locs ls hB hl hF
    replace hF := hF.trans (f_X12_fills_16.eq_1 (dv G Γ H0) ((a0 : Int)) (p1.toInt) (p2.toInt))
    refine lv_aload_n hx hb gX12_fills_1.1 rfl (lv_at hl 0 rfl) ?_
    refine lv_dup hx hb gX12_fills_1.2.1 rfl ?_
    refine th_getI (j := 41) hC cf_X12 hB.1 h0 ro_46 rfl rfl kf_X12_406 gX12_fills_1.2.2.1 (fun x2 mx2 lx2 ux2 => ?_)
    replace hF := hF.trans (dv_bn (dv_getI h0 ro_46 (j := 41) rfl mx2 (by decide)))
    refine lv_iconst (v := 1) hx hb gX12_fills_1.2.2.2.1 (by decide) ?_
    refine lv_iadd hx hb gX12_fills_1.2.2.2.2.1 ?_
    refine lv_topi (fun x3 ex3 => ?_)
    have lx3 := ti_lo x3; have ux3 := ti_hi x3
    replace hF := hF.trans (dv_bn (dv_add_e (Eq.refl _) tk_1 ex3))
    refine th_put hC cf_X12 hB h0 (Or.inl h0) ro_46 rfl (j := 41) rfl th_sIa (by decide) rfl rfl rfl kf_X12_406 gX12_fills_1.2.2.2.2.2.1 (fun H23 locs hB hf hst23 => ?_)
    have mm4 := (th_F_o hf h0 ro_46 (j := 44) (by decide) (by decide)).trans mx1
    have hR := th_RC_F hB.1 hR hf (th_T_s h0 ro_46 hst23) (by decide)
    replace hF := hF.trans (dv_bn (dv_putI hB.1 h0 ro_46 (j := 41) rfl (th_apart hC cf_X12) hst23 (Eq.refl _) (by decide)))
    have mm5 := hst23.2.1
    refine lv_aload_n hx hb gX12_fills_1.2.2.2.2.2.2.1 rfl (lv_at hl 0 rfl) ?_
    refine lv_aload_n hx hb gX12_fills_1.2.2.2.2.2.2.2 rfl (lv_at hl 0 rfl) ?_
    refine th_getI (j := 43) hC cf_X12 hB.1 h0 ro_46 rfl rfl kf_X12_409 gX12_fills_2.1 (fun x6 mx6 lx6 ux6 => ?_)
    replace hF := hF.trans (dv_bn (dv_getI h0 ro_46 (j := 43) rfl mx6 (by decide)))
    refine lv_iload_n hx hb gX12_fills_2.2.1 rfl (lv_at hl 2 rfl) ?_
    refine th_call (th_runS (As := [.int x6, .int p2]) (rest := [.ref a0]) hC mf_X12_lesser km_X12_364 st_X12_lesser (c_X12_lesser l G Γ H23 hB.1 hU x6 p2) rfl rfl ⟨Nat.le_of_ble_eq_true rfl, Nat.le_of_ble_eq_true rfl⟩ rfl hl.1 rfl (Nat.le_of_ble_eq_true rfl) gX12_fills_2.2.2.1 ⟨Nat.le_refl _, Nat.le_refl _⟩) hB.2.1 (fun v32 H32 locs hp hz hS => ?_)
    obtain ⟨x7, rfl, q32_0, q32_1, rfl⟩ := hp
    have hB := th_B_s hB hS
    replace hF := hF.trans (dv_bn2 (q32_1))
    refine W.eq (g2 := F0 m 35 ls [.int x7, .ref a0]) rfl ?_
    refine th_put hC cf_X12 hB h0 (Or.inl h0) ro_46 rfl (j := 43) rfl th_sIa (by decide) rfl rfl rfl kf_X12_409 gX12_fills_2.2.2.2.1 (fun H35 locs hB hf hst35 => ?_)
    have mm8 := (th_F_o hf h0 ro_46 (j := 44) (by decide) (by decide)).trans mm4
    have mm9 := (th_F_o hf h0 ro_46 (j := 41) (by decide) (by decide)).trans mm5
    have hR := th_RC_F hB.1 hR hf (th_T_s h0 ro_46 hst35) (by decide)
    replace hF := hF.trans (dv_bn (dv_putI hB.1 h0 ro_46 (j := 43) rfl (th_apart hC cf_X12) hst35 (Eq.refl _) (by decide)))
    refine lv_aload_n hx hb gX12_fills_2.2.2.2.2.1 rfl (lv_at hl 0 rfl) ?_
    refine th_getK hC cf_X12 hB.1 h0 ro_46 rfl (j := 44) (by decide) mm8 kf_X12_400 gX12_fills_2.2.2.2.2.2.1 ?_
    replace hF := hF.trans (dv_bn (dv_getI h0 ro_46 (j := 44) rfl mm8 (by decide)))
    have jn50 : ∀ (H50 : Heap) (locs : List Loc) (ls : Array Slot) , th_B G Γ Γ [(46, 41), (46, 42), (46, 43), (67, 0), (66, 0)] H0 H50 locs → th_RC G Γ H50 → lv_has ls 4 [(0, .ref a0), (1, .int p1)] → F = f_X12_fills_50 (dv G Γ H50) ((a0 : Int)) (p1.toInt) → th_sl H50 a0 (G.1.1.2 12 41) = .int x3 → W p l e ({ frames := 5, cells := 0, slots := 0, locals := 120 } : Room) s m ([.ref a0, .int p1, .int p2] : List Value).toArray below meth c H50 locs 0 0 (MQ below (th_Q (fun (v : Option Value) (H1 : Heap) => v = none ∧ th_I G Γ H1 ∧ th_F G Γ [(46, 41), (46, 42), (46, 43), (67, 0), (66, 0)] H0 H1 ∧ th_RC G Γ H1 ∧ (f_X12_fills (dv G Γ H0) (a0 : Int) p1.toInt p2.toInt = (dv G Γ H1, 0))) G) ([.ref a0, .int p1, .int p2] : List Value).toArray s 0 0 (fun q => G.1.2.2 ≤ q)) (F0 m 50 ls []) := by
      intro H50 locs ls hB hR hl hF g50_0
      replace hF := hF.trans (f_X12_fills_50.eq_1 (dv G Γ H50) ((a0 : Int)) (p1.toInt))
      refine lv_aload_n hx hb gX12_fills_3.2.2.1 rfl (lv_at hl 0 rfl) ?_
      refine th_getK hC cf_X12 hB.1 h0 ro_46 rfl (j := 41) (by decide) g50_0 kf_X12_406 gX12_fills_3.2.2.2.1 ?_
      replace hF := hF.trans (dv_bn (dv_getI h0 ro_46 (j := 41) rfl g50_0 (by decide)))
      refine lv_iconst (v := 1) hx hb gX12_fills_3.2.2.2.2.1 (by decide) ?_
      refine tr_icmp_le (tgt := 59) hx hb gX12_fills_3.2.2.2.2.2.1 (by decide) (Eq.refl _) tk_1 (fun c55 => ?_) (fun c55 => ?_)
      · replace hF := hF.trans (if_pos c55)
        refine lv_aload_n hx hb gX12_fills_3.2.2.2.2.2.2.2 rfl (lv_at hl 0 rfl) ?_
        refine lv_iload_n hx hb gX12_fills_4.1 rfl (lv_at hl 1 rfl) ?_
        refine th_put hC cf_X12 hB h0 (Or.inl h0) ro_46 rfl (j := 42) rfl (th_sI (by omega) (by omega)) (by decide) rfl rfl rfl kf_X12_415 gX12_fills_4.2.1 (fun H61 locs hB hf hst61 => ?_)
        have mm10 := (th_F_o hf h0 ro_46 (j := 41) (by decide) (by decide)).trans g50_0
        have hR := th_RC_F hB.1 hR hf (th_T_s h0 ro_46 hst61) (by decide)
        replace hF := hF.trans (dv_bn (dv_putI hB.1 h0 ro_46 (j := 42) rfl (th_apart hC cf_X12) hst61 (Eq.refl _) (by decide)))
        refine lv_iconst (v := 0) hx hb gX12_fills_4.2.2.1 (by decide) ?_
        refine lv_istore_n (lv' := [(3, .int 0), (0, .ref a0), (1, .int p1)]) hx hb gX12_fills_4.2.2.2.1 rfl hl (by decide) rfl (fun ls hl => ?_)
        have lp66 : ∀ (n66 : Nat) (H66 : Heap) (locs : List Loc) (ls : Array Slot) (j66_3 : Int32), th_B G Γ Γ [(46, 41), (46, 42), (46, 43), (67, 0), (66, 0)] H0 H66 locs → th_RC G Γ H66 → lv_has ls 4 [(0, .ref a0), (1, .int p1), (3, .int j66_3)] → F = dv_lp f_X12_fills_66b (dv G Γ H66, (a0 : Int), p1.toInt, j66_3.toInt) → 0 ≤ j66_3.toInt → j66_3.toInt ≤ 9 → (2147483648 : Int) - j66_3.toInt ≤ (n66 : Int) → W p l e ({ frames := 5, cells := 0, slots := 0, locals := 120 } : Room) s m ([.ref a0, .int p1, .int p2] : List Value).toArray below meth c H66 locs 0 0 (MQ below (th_Q (fun (v : Option Value) (H1 : Heap) => v = none ∧ th_I G Γ H1 ∧ th_F G Γ [(46, 41), (46, 42), (46, 43), (67, 0), (66, 0)] H0 H1 ∧ th_RC G Γ H1 ∧ (f_X12_fills (dv G Γ H0) (a0 : Int) p1.toInt p2.toInt = (dv G Γ H1, 0))) G) ([.ref a0, .int p1, .int p2] : List Value).toArray s 0 0 (fun q => G.1.2.2 ≤ q)) (F0 m 66 ls []) := by
          intro n66
          induction n66 with
          | zero => intro H66 locs ls j66_3 hB hR hl hF g66_0 g66_1 hm66; exact absurd hm66 (by have := ti_hi j66_3; omega)
          | succ n66 ih66 =>
            intro H66 locs ls j66_3 hB hR hl hF g66_0 g66_1 hm66
            have lj66_3 := ti_lo j66_3; have uj66_3 := ti_hi j66_3
            have hm66 : (2147483648 : Int) - j66_3.toInt ≤ (n66 : Int) + 1 := by omega
            replace hF := hF.trans (dv_lp_eq)
            replace hF := hF.trans (congrArg (dv_k f_X12_fills_66b) (f_X12_fills_66c.eq_1 (dv G Γ H66) ((a0 : Int)) (p1.toInt) (j66_3.toInt)))
            refine lv_iload_n hx hb gX12_fills_4.2.2.2.2.1 rfl (lv_at hl 2 rfl) ?_
            refine lv_iload_n hx hb gX12_fills_4.2.2.2.2.2.1 rfl (lv_at hl 1 rfl) ?_
            refine tr_icmp_ge (tgt := 89) hx hb gX12_fills_4.2.2.2.2.2.2.1 (by decide) (Eq.refl _) (Eq.refl _) (fun c68 => ?_) (fun c68 => ?_)
            · replace hF := hF.trans (congrArg (dv_k f_X12_fills_66b) (if_pos c68))
              replace hF := hF.trans (dv_kr)
              exact th_vret hC hH hr hlocks hB.2.1 ⟨rfl, hB.1, hB.2.2, hR, (hF0.symm.trans hF)⟩ gX12_fills_6.2
            · replace hF := hF.trans (congrArg (dv_k f_X12_fills_66b) (if_neg (Int.not_le.mpr c68)))
              refine lv_aload_n hx hb gX12_fills_4.2.2.2.2.2.2.2 rfl (lv_at hl 0 rfl) ?_
              refine th_getO (j := 37) (r2 := 66) hC cf_X12 hB.1 h0 ro_46 rfl rfl kf_X12_87 gX12_fills_5.1 (fun b11 mb11 hb11 => ?_)
              have sb11 := (th_F_o hB.2.2 h0 ro_46 (j := 37) (by decide) (by decide)).symm.trans mb11
              refine lv_iload_n hx hb gX12_fills_5.2.1 rfl (lv_at hl 2 rfl) ?_
              refine lv_aload_n hx hb gX12_fills_5.2.2.1 rfl (lv_at hl 0 rfl) ?_
              refine th_getO (j := 35) (r2 := 64) hC cf_X12 hB.1 h0 ro_46 rfl rfl kf_X12_81 gX12_fills_5.2.2.2.1 (fun b12 mb12 hb12 => ?_)
              have sb12 := (th_F_o hB.2.2 h0 ro_46 (j := 35) (by decide) (by decide)).symm.trans mb12
              refine lv_iload_n hx hb gX12_fills_5.2.2.2.2.1 rfl (lv_at hl 2 rfl) ?_
              refine th_ialdF hC hB.1 hb12 ro_64 rfl (Eq.refl _) (by omega) (by omega) rfl gX12_fills_5.2.2.2.2.2.1 (fun x13 mx13 lx13 ux13 => ?_)
              replace hF := hF.trans (congrArg (dv_k f_X12_fills_66b) (dv_bn (dv_aldI hB.1 hU hb12 ow_64 (z := j66_3.toInt) mx13 (by omega))))
              have hIo := hB.1
              refine th_iastF hC hB hb11 (Or.inl hb11) ro_66 rfl (by decide) (Eq.refl _) (by omega) (by omega) th_sIa gX12_fills_5.2.2.2.2.2.2.1 (fun H82 locs hB hf82 hst82 => ?_)
              have hf := hf82
              have mm14 := (th_F_o hf h0 ro_46 (j := 37) (by decide) (by decide)).trans mb11
              have mm15 := (th_F_o hf h0 ro_46 (j := 35) (by decide) (by decide)).trans mb12
              have hR := th_RC_F hB.1 hR hf (th_T_s hb11 ro_66 hst82) (by decide)
              replace hF := hF.trans (congrArg (dv_k f_X12_fills_66b) (dv_bn (dv_stoI hIo hB.1 hU hb11 ow_66 (i := j66_3.toInt) hst82 (Eq.refl _) (by omega))))
              refine tr_iinc (fun x16 => [(3, .int x16), (0, .ref a0), (1, .int p1)]) hx hb gX12_fills_5.2.2.2.2.2.2.2 hl (k := 2) rfl (Eq.refl _) tk_1 (by omega) (by omega) (by decide) (fun _ => rfl) (fun x16 ls ex16 hl => ?_)
              replace hF := hF.trans (congrArg (dv_k f_X12_fills_66b) (dv_bn (ex16.symm)))
              refine lv_goto (tgt := 66) hx hb gX12_fills_6.1 (by decide) ?_
              replace hF := hF.trans (dv_kl)
              exact ih66 H82 locs ls x16 hB hR (lv_sub hl [1, 2, 0] rfl) hF (by omega) (by omega) (by omega)
        exact lp66 ((2147483648 : Int) - (0)).toNat H61 locs ls 0 hB hR (lv_sub hl [1, 2, 0] rfl) (by rw [tk_0]; exact hF) (by decide) (by decide) (by have w0 := tk_0; omega)
      · replace hF := hF.trans (if_neg (Int.not_le.mpr c55))
        exact th_vret hC hH hr hlocks hB.2.1 ⟨rfl, hB.1, hB.2.2, hR, (hF0.symm.trans hF)⟩ gX12_fills_3.2.2.2.2.2.2.1
    refine tr_if_eq (tgt := 50) hx hb gX12_fills_2.2.2.2.2.2.2.1 (by decide) (Eq.refl _) (fun c42 => ?_) (fun c42 => ?_)
    · replace hF := hF.trans (if_pos c42)
      exact jn50 H35 locs ls hB hR (lv_sub hl [0, 1] rfl) hF mm9
    · replace hF := hF.trans (if_neg c42)
      refine lv_aload_n hx hb gX12_fills_2.2.2.2.2.2.2.2 rfl (lv_at hl 0 rfl) ?_
      refine lv_iload_n hx hb gX12_fills_3.1 rfl (lv_at hl 1 rfl) ?_
      refine th_call (th_runV (As := [.int p1]) (rest := []) hC mf_X12_countsRow km_X12_412 im_X12_countsRow se_X12_countsRow (c_X12_countsRow l G Γ H35 hB.1 hR hU a0 h0 p1 (by omega) (by omega) (mo_rw_F k1 hB.1 h0 hB.2.2 (by decide))) rfl rfl ⟨Nat.le_of_ble_eq_true rfl, Nat.le_of_ble_eq_true rfl⟩ hB.1 h0 ro_46 rfl rfl hl.1 rfl (Nat.le_of_ble_eq_true rfl) gX12_fills_3.2.1 ⟨Nat.le_refl _, Nat.le_refl _⟩) hB.2.1 (fun v47 H47 locs hp hz hS => ?_)
      obtain ⟨rfl, hI1, hf, hR, z47_0⟩ := hp
      have hB := th_B_c hB hI1 hS hf (by decide)
      have mm17 := (th_F_o hf h0 ro_46 (j := 44) (by decide) (by decide)).trans mm8
      have mm18 := (th_F_o hf h0 ro_46 (j := 41) (by decide) (by decide)).trans mm9
      replace hF := hF.trans (dv_bn2 (z47_0))
      refine W.eq (g2 := F0 m 50 ls []) rfl ?_
      exact jn50 H47 locs ls hB hR (lv_sub hl [0, 1] rfl) hF mm18
  refine tr_if_eq (tgt := 16) hx hb gX12_fills_0.2.2.1 (by decide) (Eq.refl _) (fun c4 => ?_) (fun c4 => ?_)
  · replace hF := hF.trans (if_pos c4)
    exact jn16 [] ls hB (lv_sub hl [0, 1, 2] rfl) hF
  · replace hF := hF.trans (if_neg c4)
    refine lv_aload_n hx hb gX12_fills_0.2.2.2.1 rfl (lv_at hl 0 rfl) ?_
    refine lv_iload_n hx hb gX12_fills_0.2.2.2.2.1 rfl (lv_at hl 1 rfl) ?_
    refine th_call (th_runV (As := [.int p1]) (rest := []) hC mf_X12_isSeenSo km_X12_403 im_X12_isSeenSo se_X12_isSeenSo (c_X12_isSeenSo l G Γ H0 hB.1 hU a0 h0 p1 (by omega) (by omega)) rfl rfl ⟨Nat.le_of_ble_eq_true rfl, Nat.le_of_ble_eq_true rfl⟩ hB.1 h0 ro_46 rfl rfl hl.1 rfl (Nat.le_of_ble_eq_true rfl) gX12_fills_0.2.2.2.2.2.1 ⟨Nat.le_refl _, Nat.le_refl _⟩) hB.2.1 (fun v9 H9 locs hp hz hS => ?_)
    obtain ⟨x19, rfl, lx19, ux19, q9_0, rfl⟩ := hp
    have hB := th_B_s hB hS
    replace hF := hF.trans (dv_bn2 (q9_0))
    refine W.eq (g2 := F0 m 12 ls [.int x19]) rfl ?_
    refine tr_if_ne (tgt := 16) hx hb gX12_fills_0.2.2.2.2.2.2.1 (by decide) (Eq.refl _) (fun c12 => ?_) (fun c12 => ?_)
    · replace hF := hF.trans (if_pos c12)
      exact jn16 locs ls hB (lv_sub hl [0, 1, 2] rfl) hF
    · replace hF := hF.trans (if_neg (not_not_intro c12))
      exact th_vret hC hH hr hlocks hB.2.1 ⟨rfl, hB.1, hB.2.2, hR, (hF0.symm.trans hF)⟩ gX12_fills_0.2.2.2.2.2.2.2

def s_X12_goesOn (d : Nat) : Prop := ∀ (l : Launch) (G : th_G) (Γ : th_Ga) (H0 : Heap) (hI : th_I G Γ H0) (hR : th_RC G Γ H0) (hU : dv_U Γ) (a0 : Nat) (h0 : Γ a0 = (46, 0)) (p1 : Int32) (p2 : Int32) (f2 : 0 ≤ p2.toInt) (g2 : p2.toInt ≤ 9) (p3 : Int32) (k1 : ((mo_pc p1 : Nat) : Int) + p2.toInt ≤ 9) (k2 : mo_rw G H0 a0 p2.toInt) (hdm : 9 ≤ p2.toInt + (d : Int)), Met l yX12_goesOn (.code yX12_goesOn cX12_goesOn 8 (none) :: th_tb) ({ frames := 6 + d, cells := 0, slots := 0, locals := 143 + d * 27 } : Room) (th_P [.ref a0, .int p1, .int p2, .int p3] G H0) (th_Q (fun (v : Option Value) (H1 : Heap) => v = none ∧ th_I G Γ H1 ∧ th_F G Γ [(46, 41), (46, 42), (46, 43), (67, 0), (66, 0), (59, 0), (64, 0), (65, 0)] H0 H1 ∧ th_RC G Γ H1 ∧ (mo_rw G H1 a0 p2.toInt) ∧ (f_X12_goesOn d (dv G Γ H0) (a0 : Int) p1.toInt p2.toInt p3.toInt = (dv G Γ H1, 0))) G) 0 0 (fun q => G.1.2.2 ≤ q)
set_option maxHeartbeats 4000000 in
set_option maxRecDepth 100000 in
theorem c_X12_goesOn_s (d : Nat) (ihd : ∀ d', d = d' + 1 → s_X12_goesOn d') : s_X12_goesOn d := by
  intro l G Γ H0 hI hR hU a0 h0 p1 p2 f2 g2 p3 k1 k2 hdm
  refine th_met RX12 (by decide) rfl (Nat.le_of_ble_eq_true rfl) ?_
  intro p e s m below meth c hC hH hr hlocks hnm ls hl
  have hx := hC.1
  have hb := hC.2.1
  have hB : th_B G Γ Γ [(46, 41), (46, 42), (46, 43), (67, 0), (66, 0), (59, 0), (64, 0), (65, 0)] H0 H0 [] := ⟨hI, va_S.rf, th_F_rf⟩
  have hl : lv_has ls 8 [(0, .ref a0), (1, .int p1), (2, .int p2), (3, .int p3)] := hl
  have lp1 := ti_lo p1; have up1 := ti_hi p1
  have lp2 := ti_lo p2; have up2 := ti_hi p2
  have lp3 := ti_lo p3; have up3 := ti_hi p3
  obtain ⟨F, hF0⟩ : ∃ F, F = f_X12_goesOn d (dv G Γ H0) ((a0 : Int)) (p1.toInt) (p2.toInt) (p3.toInt) := ⟨_, rfl⟩
  have hF := hF0.trans ((f_X12_goesOn_d d (dv G Γ H0) ((a0 : Int)) (p1.toInt) (p2.toInt) (p3.toInt)).trans (f_X12_goesOn_B.eq_1 d (dv_pre (fun _ _ _ _ _ => dv_z) f_X12_goesOn d) (dv G Γ H0) ((a0 : Int)) (p1.toInt) (p2.toInt) (p3.toInt)))
  refine lv_aload_n hx hb gX12_goesOn_0.1 rfl (lv_at hl 0 rfl) ?_
  refine th_getI (j := 45) hC cf_X12 hB.1 h0 ro_46 rfl rfl kf_X12_418 gX12_goesOn_0.2.1 (fun x1 mx1 lx1 ux1 => ?_)
  replace hF := hF.trans (dv_bn (dv_getI h0 ro_46 (j := 45) rfl mx1 (by decide)))
  have jn15 : ∀ (locs : List Loc) (ls : Array Slot) , th_B G Γ Γ [(46, 41), (46, 42), (46, 43), (67, 0), (66, 0), (59, 0), (64, 0), (65, 0)] H0 H0 locs → lv_has ls 8 [(0, .ref a0), (1, .int p1), (2, .int p2), (3, .int p3)] → F = f_X12_goesOn_15 d (dv_pre (fun _ _ _ _ _ => dv_z) f_X12_goesOn d) (dv G Γ H0) ((a0 : Int)) (p1.toInt) (p2.toInt) (p3.toInt) → W p l e ({ frames := 6 + d, cells := 0, slots := 0, locals := 143 + d * 27 } : Room) s m ([.ref a0, .int p1, .int p2, .int p3] : List Value).toArray below meth c H0 locs 0 0 (MQ below (th_Q (fun (v : Option Value) (H1 : Heap) => v = none ∧ th_I G Γ H1 ∧ th_F G Γ [(46, 41), (46, 42), (46, 43), (67, 0), (66, 0), (59, 0), (64, 0), (65, 0)] H0 H1 ∧ th_RC G Γ H1 ∧ (mo_rw G H1 a0 p2.toInt) ∧ (f_X12_goesOn d (dv G Γ H0) (a0 : Int) p1.toInt p2.toInt p3.toInt = (dv G Γ H1, 0))) G) ([.ref a0, .int p1, .int p2, .int p3] : List Value).toArray s 0 0 (fun q => G.1.2.2 ≤ q)) (F0 m 15 ls []) := by
    intro locs ls hB hl hF
    replace hF := hF.trans (f_X12_goesOn_15.eq_1 d (dv_pre (fun _ _ _ _ _ => dv_z) f_X12_goesOn d) (dv G Γ H0) ((a0 : Int)) (p1.toInt) (p2.toInt) (p3.toInt))
    refine lv_aload_n hx hb gX12_goesOn_0.2.2.2.2.2.2.2 rfl (lv_at hl 0 rfl) ?_
    refine lv_aload_n hx hb gX12_goesOn_1.1 rfl (lv_at hl 0 rfl) ?_
    refine th_getI (j := 39) hC cf_X12 hB.1 h0 ro_46 rfl rfl kf_X12_421 gX12_goesOn_1.2.1 (fun x2 mx2 lx2 ux2 => ?_)
    replace hF := hF.trans (dv_bn (dv_getI h0 ro_46 (j := 39) rfl mx2 (by decide)))
    refine lv_aload_n hx hb gX12_goesOn_1.2.2.1 rfl (lv_at hl 0 rfl) ?_
    refine th_getI (j := 40) hC cf_X12 hB.1 h0 ro_46 rfl rfl kf_X12_424 gX12_goesOn_1.2.2.2.1 (fun x3 mx3 lx3 ux3 => ?_)
    replace hF := hF.trans (dv_bn (dv_getI h0 ro_46 (j := 40) rfl mx3 (by decide)))
    refine th_call (th_runV (As := [.int x2, .int x3]) (rest := []) hC mf_X12_firstBare km_X12_354 im_X12_firstBare se_X12_firstBare (c_X12_firstBare l G Γ H0 hB.1 hU a0 h0 x2 (by omega) (by omega) x3 (by omega) (by omega)) rfl rfl ⟨by dsimp only; omega, by dsimp only; omega⟩ hB.1 h0 ro_46 rfl rfl hl.1 rfl (Nat.le_of_ble_eq_true rfl) gX12_goesOn_1.2.2.2.2.1 ⟨Nat.le_refl _, Nat.le_refl _⟩) hB.2.1 (fun v24 H24 locs hp hz hS => ?_)
    obtain ⟨x4, rfl, lx4, ux4, q24_0, rfl⟩ := hp
    have hB := th_B_s hB hS
    replace hF := hF.trans (dv_bn2 (q24_0))
    refine W.eq (g2 := F0 m 27 ls [.int x4]) rfl ?_
    refine lv_istore (lv' := [(4, .int x4), (0, .ref a0), (1, .int p1), (2, .int p2), (3, .int p3)]) hx hb gX12_goesOn_1.2.2.2.2.2.1 hl (by decide) rfl (fun ls hl => ?_)
    refine lv_iload hx hb gX12_goesOn_1.2.2.2.2.2.2.1 (lv_at hl 0 rfl) ?_
    refine lv_iconst (v := (-1)) hx hb gX12_goesOn_1.2.2.2.2.2.2.2 (by decide) ?_
    refine tr_icmp_ne (tgt := 42) hx hb gX12_goesOn_2.1 (by decide) (Eq.refl _) tk_m1 (fun c32 => ?_) (fun c32 => ?_)
    · replace hF := hF.trans (if_pos c32)
      refine lv_iload hx hb gX12_goesOn_2.2.2.2.2.2.2.1 (lv_at hl 0 rfl) ?_
      refine lv_bipush (v := 12) hx hb gX12_goesOn_2.2.2.2.2.2.2.2 (by decide) ?_
      refine tr_irem hx hb gX12_goesOn_3.1 (Eq.refl _) tk_12 (by omega) (by omega) (fun x5 ex5 => ?_)
      replace hF := hF.trans (dv_bn (ex5.symm))
      refine lv_istore (lv' := [(5, .int x5), (4, .int x4), (0, .ref a0), (1, .int p1), (2, .int p2), (3, .int p3)]) hx hb gX12_goesOn_3.2.1 hl (by decide) rfl (fun ls hl => ?_)
      refine lv_iload hx hb gX12_goesOn_3.2.2.1 (lv_at hl 1 rfl) ?_
      refine lv_bipush (v := 12) hx hb gX12_goesOn_3.2.2.2.1 (by decide) ?_
      refine tr_idiv hx hb gX12_goesOn_3.2.2.2.2.1 (Eq.refl _) tk_12 (by omega) (by omega) (fun x6 ex6 => ?_)
      replace hF := hF.trans (dv_bn (ex6.symm))
      refine lv_istore (lv' := [(6, .int x6), (5, .int x5), (4, .int x4), (0, .ref a0), (1, .int p1), (2, .int p2), (3, .int p3)]) hx hb gX12_goesOn_3.2.2.2.2.2.1 hl (by decide) rfl (fun ls hl => ?_)
      refine lv_iconst (v := 0) hx hb gX12_goesOn_3.2.2.2.2.2.2.1 (by decide) ?_
      refine lv_istore (lv' := [(7, .int 0), (6, .int x6), (5, .int x5), (4, .int x4), (0, .ref a0), (1, .int p1), (2, .int p2), (3, .int p3)]) hx hb gX12_goesOn_3.2.2.2.2.2.2.2 hl (by decide) rfl (fun ls hl => ?_)
      have lp59 : ∀ (n59 : Nat) (H59 : Heap) (locs : List Loc) (ls : Array Slot) (j59_7 : Int32), th_B G Γ Γ [(46, 41), (46, 42), (46, 43), (67, 0), (66, 0), (59, 0), (64, 0), (65, 0)] H0 H59 locs → th_RC G Γ H59 → lv_has ls 8 [(6, .int x6), (5, .int x5), (4, .int x4), (0, .ref a0), (1, .int p1), (2, .int p2), (3, .int p3), (7, .int j59_7)] → F = dv_lp (f_X12_goesOn_59b d (dv_pre (fun _ _ _ _ _ => dv_z) f_X12_goesOn d)) (dv G Γ H59, x6.toInt, x5.toInt, x4.toInt, (a0 : Int), p1.toInt, p2.toInt, p3.toInt, j59_7.toInt) → 0 ≤ j59_7.toInt → j59_7.toInt ≤ 9 → mo_rw G H59 a0 p2.toInt → (2147483648 : Int) - j59_7.toInt ≤ (n59 : Int) → W p l e ({ frames := 6 + d, cells := 0, slots := 0, locals := 143 + d * 27 } : Room) s m ([.ref a0, .int p1, .int p2, .int p3] : List Value).toArray below meth c H59 locs 0 0 (MQ below (th_Q (fun (v : Option Value) (H1 : Heap) => v = none ∧ th_I G Γ H1 ∧ th_F G Γ [(46, 41), (46, 42), (46, 43), (67, 0), (66, 0), (59, 0), (64, 0), (65, 0)] H0 H1 ∧ th_RC G Γ H1 ∧ (mo_rw G H1 a0 p2.toInt) ∧ (f_X12_goesOn d (dv G Γ H0) (a0 : Int) p1.toInt p2.toInt p3.toInt = (dv G Γ H1, 0))) G) ([.ref a0, .int p1, .int p2, .int p3] : List Value).toArray s 0 0 (fun q => G.1.2.2 ≤ q)) (F0 m 59 ls []) := by
        intro n59
        induction n59 with
        | zero => intro H59 locs ls j59_7 hB hR hl hF g59_0 g59_1 g59_2 hm59; exact absurd hm59 (by have := ti_hi j59_7; omega)
        | succ n59 ih59 =>
          intro H59 locs ls j59_7 hB hR hl hF g59_0 g59_1 g59_2 hm59
          have lj59_7 := ti_lo j59_7; have uj59_7 := ti_hi j59_7
          have mm7 := (th_F_o hB.2.2 h0 ro_46 (j := 39) (by decide) (by decide)).trans mx2
          have mm8 := (th_F_o hB.2.2 h0 ro_46 (j := 40) (by decide) (by decide)).trans mx3
          have vw_H59_2 : mo_v G H59 a0 2 = mo_v G H0 a0 2 := mo_v_F (r := 48) hB.1 hB.2.2 h0 rfl ro_48 (by decide) (by decide)
          have hm59 : (2147483648 : Int) - j59_7.toInt ≤ (n59 : Int) + 1 := by omega
          replace hF := hF.trans (dv_lp_eq)
          replace hF := hF.trans (congrArg (dv_k (f_X12_goesOn_59b d (dv_pre (fun _ _ _ _ _ => dv_z) f_X12_goesOn d))) (f_X12_goesOn_59c.eq_1 d (dv_pre (fun _ _ _ _ _ => dv_z) f_X12_goesOn d) (dv G Γ H59) (x6.toInt) (x5.toInt) (x4.toInt) ((a0 : Int)) (p1.toInt) (p2.toInt) (p3.toInt) (j59_7.toInt)))
          refine lv_iload hx hb gX12_goesOn_4.1 (lv_at hl 7 rfl) ?_
          refine lv_aload_n hx hb gX12_goesOn_4.2.1 rfl (lv_at hl 3 rfl) ?_
          refine th_call (th_runV (As := []) (rest := [.int j59_7]) hC mf_X12_many km_X12_115 im_X12_many se_X12_many (c_X12_many l G Γ H59 hB.1 hU a0 h0) rfl rfl ⟨by dsimp only; omega, by dsimp only; omega⟩ hB.1 h0 ro_46 rfl rfl hl.1 rfl (Nat.le_of_ble_eq_true rfl) gX12_goesOn_4.2.2.1 ⟨Nat.le_refl _, Nat.le_refl _⟩) hB.2.1 (fun v62 H62 locs hp hz hS => ?_)
          obtain ⟨x9, rfl, lx9, ux9, q62_0, q62_1, rfl⟩ := hp
          have hB := th_B_s hB hS
          rw [(mo_v_F (r := 48) hB.1 hB.2.2 h0 rfl ro_48 (by decide) (by decide) : mo_v G H59 a0 2 = mo_v G H0 a0 2)] at q62_0
          replace hF := hF.trans (congrArg (dv_k (f_X12_goesOn_59b d (dv_pre (fun _ _ _ _ _ => dv_z) f_X12_goesOn d))) (dv_bn2 (q62_1)))
          refine W.eq (g2 := F0 m 65 ls [.int x9, .int j59_7]) rfl ?_
          refine tr_icmp_ge (tgt := 204) hx hb gX12_goesOn_4.2.2.2.1 (by decide) (Eq.refl _) (Eq.refl _) (fun c65 => ?_) (fun c65 => ?_)
          · replace hF := hF.trans (congrArg (dv_k (f_X12_goesOn_59b d (dv_pre (fun _ _ _ _ _ => dv_z) f_X12_goesOn d))) (if_pos c65))
            replace hF := hF.trans (dv_kr)
            exact th_vret hC hH hr hlocks hB.2.1 ⟨rfl, hB.1, hB.2.2, hR, g59_2, (hF0.symm.trans hF)⟩ gX12_goesOn_14
          · replace hF := hF.trans (congrArg (dv_k (f_X12_goesOn_59b d (dv_pre (fun _ _ _ _ _ => dv_z) f_X12_goesOn d))) (if_neg (Int.not_le.mpr c65)))
            refine lv_iload_n hx hb gX12_goesOn_4.2.2.2.2.1 rfl (lv_at hl 4 rfl) ?_
            refine lv_iload hx hb gX12_goesOn_4.2.2.2.2.2.1 (lv_at hl 7 rfl) ?_
            refine th_call (th_runS (As := [.int p1, .int j59_7]) (rest := []) hC mf_X12_isIn km_X12_348 st_X12_isIn (c_X12_isIn l G Γ H59 hB.1 hU p1 j59_7 (by omega) (by omega)) rfl rfl ⟨by dsimp only; omega, by dsimp only; omega⟩ rfl hl.1 rfl (Nat.le_of_ble_eq_true rfl) gX12_goesOn_4.2.2.2.2.2.2.1 ⟨Nat.le_refl _, Nat.le_refl _⟩) hB.2.1 (fun v71 H71 locs hp hz hS => ?_)
            obtain ⟨x10, rfl, lx10, ux10, q71_0, q71_1, rfl⟩ := hp
            have hB := th_B_s hB hS
            replace hF := hF.trans (congrArg (dv_k (f_X12_goesOn_59b d (dv_pre (fun _ _ _ _ _ => dv_z) f_X12_goesOn d))) (dv_bn2 (q71_1)))
            refine W.eq (g2 := F0 m 74 ls [.int x10]) rfl ?_
            refine tr_if_eq (tgt := 198) hx hb gX12_goesOn_4.2.2.2.2.2.2.2 (by decide) (Eq.refl _) (fun c74 => ?_) (fun c74 => ?_)
            · replace hF := hF.trans (congrArg (dv_k (f_X12_goesOn_59b d (dv_pre (fun _ _ _ _ _ => dv_z) f_X12_goesOn d))) (if_pos c74))
              refine tr_iinc (fun x11 => [(7, .int x11), (6, .int x6), (5, .int x5), (4, .int x4), (0, .ref a0), (1, .int p1), (2, .int p2), (3, .int p3)]) hx hb gX12_goesOn_13.2.2.2.2.2.2.1 hl (k := 7) rfl (Eq.refl _) tk_1 (by omega) (by omega) (by decide) (fun _ => rfl) (fun x11 ls ex11 hl => ?_)
              replace hF := hF.trans (congrArg (dv_k (f_X12_goesOn_59b d (dv_pre (fun _ _ _ _ _ => dv_z) f_X12_goesOn d))) (dv_bn (ex11.symm)))
              refine lv_goto (tgt := 59) hx hb gX12_goesOn_13.2.2.2.2.2.2.2 (by decide) ?_
              replace hF := hF.trans (dv_kl)
              exact ih59 H59 locs ls x11 hB hR (lv_sub hl [1, 2, 3, 4, 5, 6, 7, 0] rfl) hF (by omega) (by omega) g59_2 (by omega)
            · replace hF := hF.trans (congrArg (dv_k (f_X12_goesOn_59b d (dv_pre (fun _ _ _ _ _ => dv_z) f_X12_goesOn d))) (if_neg c74))
              refine lv_aload_n hx hb gX12_goesOn_5.1 rfl (lv_at hl 3 rfl) ?_
              refine lv_iload hx hb gX12_goesOn_5.2.1 (lv_at hl 7 rfl) ?_
              refine lv_iload hx hb gX12_goesOn_5.2.2.1 (lv_at hl 2 rfl) ?_
              refine th_call (th_runV (As := [.int j59_7, .int x4]) (rest := []) hC mf_X12_priceAt km_X12_430 im_X12_priceAt se_X12_priceAt (c_X12_priceAt l G Γ H59 hB.1 hU a0 h0 j59_7 (by omega) (by omega) x4 (by omega) (by omega)) rfl rfl ⟨by dsimp only; omega, by dsimp only; omega⟩ hB.1 h0 ro_46 rfl rfl hl.1 rfl (Nat.le_of_ble_eq_true rfl) gX12_goesOn_5.2.2.2.1 ⟨Nat.le_refl _, Nat.le_refl _⟩) hB.2.1 (fun v82 H82 locs hp hz hS => ?_)
              obtain ⟨x12, rfl, q82_0, rfl⟩ := hp
              have hB := th_B_s hB hS
              replace hF := hF.trans (congrArg (dv_k (f_X12_goesOn_59b d (dv_pre (fun _ _ _ _ _ => dv_z) f_X12_goesOn d))) (dv_bn2 (q82_0)))
              refine W.eq (g2 := F0 m 85 ls [.int x12]) rfl ?_
              refine lv_iconst (v := (-1)) hx hb gX12_goesOn_5.2.2.2.2.1 (by decide) ?_
              refine tr_icmp_eq (tgt := 198) hx hb gX12_goesOn_5.2.2.2.2.2.1 (by decide) (Eq.refl _) tk_m1 (fun c86 => ?_) (fun c86 => ?_)
              · replace hF := hF.trans (congrArg (dv_k (f_X12_goesOn_59b d (dv_pre (fun _ _ _ _ _ => dv_z) f_X12_goesOn d))) (if_pos c86))
                refine tr_iinc (fun x13 => [(7, .int x13), (6, .int x6), (5, .int x5), (4, .int x4), (0, .ref a0), (1, .int p1), (2, .int p2), (3, .int p3)]) hx hb gX12_goesOn_13.2.2.2.2.2.2.1 hl (k := 7) rfl (Eq.refl _) tk_1 (by omega) (by omega) (by decide) (fun _ => rfl) (fun x13 ls ex13 hl => ?_)
                replace hF := hF.trans (congrArg (dv_k (f_X12_goesOn_59b d (dv_pre (fun _ _ _ _ _ => dv_z) f_X12_goesOn d))) (dv_bn (ex13.symm)))
                refine lv_goto (tgt := 59) hx hb gX12_goesOn_13.2.2.2.2.2.2.2 (by decide) ?_
                replace hF := hF.trans (dv_kl)
                exact ih59 H59 locs ls x13 hB hR (lv_sub hl [1, 2, 3, 4, 5, 6, 7, 0] rfl) hF (by omega) (by omega) g59_2 (by omega)
              · replace hF := hF.trans (congrArg (dv_k (f_X12_goesOn_59b d (dv_pre (fun _ _ _ _ _ => dv_z) f_X12_goesOn d))) (if_neg c86))
                refine lv_aload_n hx hb gX12_goesOn_5.2.2.2.2.2.2.1 rfl (lv_at hl 3 rfl) ?_
                refine lv_aload_n hx hb gX12_goesOn_5.2.2.2.2.2.2.2 rfl (lv_at hl 3 rfl) ?_
                refine th_getO (j := 2) (r2 := 48) hC cf_X12 hB.1 h0 ro_46 rfl rfl kf_X12_28 gX12_goesOn_6.1 (fun b14 mb14 hb14 => ?_)
                have sb14 := (th_F_o hB.2.2 h0 ro_46 (j := 2) (by decide) (by decide)).symm.trans mb14
                refine lv_bipush (v := 29) hx hb gX12_goesOn_6.2.1 (by decide) ?_
                refine lv_iload hx hb gX12_goesOn_6.2.2.1 (lv_at hl 7 rfl) ?_
                refine tr_iadd hx hb gX12_goesOn_6.2.2.2.1 tk_29 (Eq.refl _) (by omega) (by omega) (fun x15 ex15 => ?_)
                replace hF := hF.trans (congrArg (dv_k (f_X12_goesOn_59b d (dv_pre (fun _ _ _ _ _ => dv_z) f_X12_goesOn d))) (dv_bn (ex15.symm)))
                refine th_ialdF hC hB.1 hb14 ro_48 rfl (Eq.refl _) (by omega) (by omega) (ek_side (by omega) (by omega)) gX12_goesOn_6.2.2.2.2.1 (fun x16 mx16 lx16 ux16 => ?_)
                replace hF := hF.trans (congrArg (dv_k (f_X12_goesOn_59b d (dv_pre (fun _ _ _ _ _ => dv_z) f_X12_goesOn d))) (dv_bn (dv_aldI hB.1 hU hb14 ow_48 (z := x15.toInt) mx16 (by omega))))
                have vgx16 : mo_v G H0 a0 2 (29 + j59_7.toInt) = x16.toInt := by rw [← (mo_v_F (r := 48) hB.1 hB.2.2 h0 rfl ro_48 (by decide) (by decide) : mo_v G H59 a0 2 = _)]; rw [show ((29 + j59_7.toInt) : Int) = x15.toInt by omega]; exact mo_vat mb14 mx16 (by omega)
                refine lv_iload hx hb gX12_goesOn_6.2.2.2.2.2.1 (lv_at hl 1 rfl) ?_
                refine lv_iload hx hb gX12_goesOn_6.2.2.2.2.2.2.1 (lv_at hl 0 rfl) ?_
                refine lv_aload_n hx hb gX12_goesOn_6.2.2.2.2.2.2.2 rfl (lv_at hl 3 rfl) ?_
                refine th_getK hC cf_X12 hB.1 h0 ro_46 rfl (j := 39) (by decide) mm7 kf_X12_421 gX12_goesOn_7.1 ?_
                replace hF := hF.trans (congrArg (dv_k (f_X12_goesOn_59b d (dv_pre (fun _ _ _ _ _ => dv_z) f_X12_goesOn d))) (dv_bn (dv_getI h0 ro_46 (j := 39) rfl mm7 (by decide))))
                refine lv_aload_n hx hb gX12_goesOn_7.2.1 rfl (lv_at hl 3 rfl) ?_
                refine th_getK hC cf_X12 hB.1 h0 ro_46 rfl (j := 40) (by decide) mm8 kf_X12_424 gX12_goesOn_7.2.2.1 ?_
                replace hF := hF.trans (congrArg (dv_k (f_X12_goesOn_59b d (dv_pre (fun _ _ _ _ _ => dv_z) f_X12_goesOn d))) (dv_bn (dv_getI h0 ro_46 (j := 40) rfl mm8 (by decide))))
                refine th_call (th_runV (As := [.int x16, .int x5, .int x6, .int x2, .int x3]) (rest := []) hC mf_X12_isFree km_X12_360 im_X12_isFree se_X12_isFree (c_X12_isFree l G Γ H59 hB.1 hU a0 h0 x16 (by omega) (by omega) x5 (by omega) (by omega) x6 (by omega) (by omega) x2 (by omega) (by omega) x3 (by omega) (by omega)) rfl rfl ⟨by dsimp only; omega, by dsimp only; omega⟩ hB.1 h0 ro_46 rfl rfl hl.1 rfl (Nat.le_of_ble_eq_true rfl) gX12_goesOn_7.2.2.2.1 ⟨Nat.le_refl _, Nat.le_refl _⟩) hB.2.1 (fun v112 H112 locs hp hz hS => ?_)
                obtain ⟨x17, rfl, lx17, ux17, q112_0, q112_1, q112_2, rfl⟩ := hp
                have hB := th_B_s hB hS
                replace hF := hF.trans (congrArg (dv_k (f_X12_goesOn_59b d (dv_pre (fun _ _ _ _ _ => dv_z) f_X12_goesOn d))) (dv_bn2 (q112_2)))
                refine W.eq (g2 := F0 m 115 ls [.int x17]) rfl ?_
                refine tr_if_ne (tgt := 121) hx hb gX12_goesOn_7.2.2.2.2.1 (by decide) (Eq.refl _) (fun c115 => ?_) (fun c115 => ?_)
                · replace hF := hF.trans (congrArg (dv_k (f_X12_goesOn_59b d (dv_pre (fun _ _ _ _ _ => dv_z) f_X12_goesOn d))) (if_pos c115))
                  refine lv_aload_n hx hb gX12_goesOn_7.2.2.2.2.2.2.1 rfl (lv_at hl 3 rfl) ?_
                  have pb := mo_pc_pos (x := p1) (c := j59_7) (by omega) (by omega) (q71_0 (by omega))
                  have fi := q112_0 (by omega)
                  refine lv_aload_n hx hb gX12_goesOn_7.2.2.2.2.2.2.2 rfl (lv_at hl 3 rfl) ?_
                  refine th_getK hC cf_X12 hB.1 h0 ro_46 rfl (j := 2) (by decide) mb14 kf_X12_28 gX12_goesOn_8.1 ?_
                  refine lv_bipush (v := 29) hx hb gX12_goesOn_8.2.1 (by decide) ?_
                  refine lv_iload hx hb gX12_goesOn_8.2.2.1 (lv_at hl 7 rfl) ?_
                  refine tr_iadd hx hb gX12_goesOn_8.2.2.2.1 tk_29 (Eq.refl _) (by omega) (by omega) (fun x18 ex18 => ?_)
                  replace hF := hF.trans (congrArg (dv_k (f_X12_goesOn_59b d (dv_pre (fun _ _ _ _ _ => dv_z) f_X12_goesOn d))) (dv_bn (ex18.symm)))
                  refine th_ialdF hC hB.1 hb14 ro_48 rfl (Eq.refl _) (by omega) (by omega) (ek_side (by omega) (by omega)) gX12_goesOn_8.2.2.2.2.1 (fun x19 mx19 lx19 ux19 => ?_)
                  replace hF := hF.trans (congrArg (dv_k (f_X12_goesOn_59b d (dv_pre (fun _ _ _ _ _ => dv_z) f_X12_goesOn d))) (dv_bn (dv_aldI hB.1 hU hb14 ow_48 (z := x18.toInt) mx19 (by omega))))
                  have vgx19 : mo_v G H0 a0 2 (29 + j59_7.toInt) = x19.toInt := by rw [← (mo_v_F (r := 48) hB.1 hB.2.2 h0 rfl ro_48 (by decide) (by decide) : mo_v G H59 a0 2 = _)]; rw [show ((29 + j59_7.toInt) : Int) = x18.toInt by omega]; exact mo_vat mb14 mx19 (by omega)
                  refine lv_iload hx hb gX12_goesOn_8.2.2.2.2.2.1 (lv_at hl 1 rfl) ?_
                  refine lv_iload hx hb gX12_goesOn_8.2.2.2.2.2.2.1 (lv_at hl 0 rfl) ?_
                  refine th_call (th_runV (As := [.int x19, .int x5, .int x6]) (rest := []) hC mf_X12_turnsSquare km_X12_345 im_X12_turnsSquare se_X12_turnsSquare (c_X12_turnsSquare l G Γ H59 hB.1 hR hU a0 h0 x19 (by omega) (by omega) x5 (by omega) (by omega) x6 (by omega) (by omega) (by omega)) rfl rfl ⟨by dsimp only; omega, by dsimp only; omega⟩ hB.1 h0 ro_46 rfl rfl hl.1 rfl (Nat.le_of_ble_eq_true rfl) gX12_goesOn_8.2.2.2.2.2.2.2 ⟨Nat.le_refl _, Nat.le_refl _⟩) hB.2.1 (fun v136 H136 locs hp hz hS => ?_)
                  obtain ⟨rfl, hI1, hf, hR, z136_0, z136_1⟩ := hp
                  have hB := th_B_c hB hI1 hS hf (by decide)
                  have mm20 := (th_F_o hf h0 ro_46 (j := 39) (by decide) (by decide)).trans mm7
                  have mm21 := (th_F_o hf h0 ro_46 (j := 40) (by decide) (by decide)).trans mm8
                  have mm22 := (th_F_o hf h0 ro_46 (j := 2) (by decide) (by decide)).trans mb14
                  have vv_H136_2 : mo_v G H136 a0 2 = mo_v G H59 a0 2 := mo_v_F (r := 48) hB.1 hf h0 rfl ro_48 (by decide) (by decide)
                  have vv_H136_35 : mo_v G H136 a0 35 = mo_v G H59 a0 35 := mo_v_F (r := 64) hB.1 hf h0 rfl ro_64 (by decide) (by decide)
                  have vv_H136_36 : mo_v G H136 a0 36 = mo_v G H59 a0 36 := mo_v_F (r := 65) hB.1 hf h0 rfl ro_65 (by decide) (by decide)
                  replace hF := hF.trans (congrArg (dv_k (f_X12_goesOn_59b d (dv_pre (fun _ _ _ _ _ => dv_z) f_X12_goesOn d))) (dv_bn2 (z136_1)))
                  refine W.eq (g2 := F0 m 139 ls []) rfl ?_
                  have rwA := mo_rw_F g59_2 hB.1 h0 hf (by decide)
                  refine lv_aload_n hx hb gX12_goesOn_9.1 rfl (lv_at hl 3 rfl) ?_
                  refine th_getO (j := 35) (r2 := 64) hC cf_X12 hB.1 h0 ro_46 rfl rfl kf_X12_81 gX12_goesOn_9.2.1 (fun b23 mb23 hb23 => ?_)
                  have sb23 := (th_F_o hB.2.2 h0 ro_46 (j := 35) (by decide) (by decide)).symm.trans mb23
                  refine lv_iload_n hx hb gX12_goesOn_9.2.2.1 rfl (lv_at hl 5 rfl) ?_
                  refine lv_iload hx hb gX12_goesOn_9.2.2.2.1 (lv_at hl 7 rfl) ?_
                  have hIo := hB.1
                  refine th_iastF hC hB hb23 (Or.inl hb23) ro_64 rfl (by decide) (Eq.refl _) (by omega) (by omega) (th_sI (by omega) (by omega)) gX12_goesOn_9.2.2.2.2.1 (fun H146 locs hB hf146 hst146 => ?_)
                  have hf := hf146
                  have mm24 := (th_F_o hf h0 ro_46 (j := 39) (by decide) (by decide)).trans mm20
                  have mm25 := (th_F_o hf h0 ro_46 (j := 40) (by decide) (by decide)).trans mm21
                  have mm26 := (th_F_o hf h0 ro_46 (j := 2) (by decide) (by decide)).trans mm22
                  have mm27 := (th_F_o hf h0 ro_46 (j := 35) (by decide) (by decide)).trans mb23
                  have hR := th_RC_F hB.1 hR hf (th_T_s hb23 ro_64 hst146) (by decide)
                  have vv_H146_2 : mo_v G H146 a0 2 = mo_v G H136 a0 2 := mo_v_F (r := 48) hB.1 hf h0 rfl ro_48 (by decide) (by decide)
                  have vv_H146_36 : mo_v G H146 a0 36 = mo_v G H136 a0 36 := mo_v_F (r := 65) hB.1 hf h0 rfl ro_65 (by decide) (by decide)
                  replace hF := hF.trans (congrArg (dv_k (f_X12_goesOn_59b d (dv_pre (fun _ _ _ _ _ => dv_z) f_X12_goesOn d))) (dv_bn (dv_stoI hIo hB.1 hU hb23 ow_64 (i := p2.toInt) hst146 (Eq.refl _) (by omega))))
                  have vs146 : mo_v G H146 a0 35 = mo_u (mo_v G H136 a0 35) p2.toInt j59_7.toInt := by rw [show (p2.toInt : Int) = p2.toInt by omega]; exact mo_v_st h0 hb23 (by decide) mb23 hst146 (by omega)
                  refine lv_aload_n hx hb gX12_goesOn_9.2.2.2.2.2.1 rfl (lv_at hl 3 rfl) ?_
                  refine th_getO (j := 36) (r2 := 65) hC cf_X12 hB.1 h0 ro_46 rfl rfl kf_X12_84 gX12_goesOn_9.2.2.2.2.2.2.1 (fun b28 mb28 hb28 => ?_)
                  have sb28 := (th_F_o hB.2.2 h0 ro_46 (j := 36) (by decide) (by decide)).symm.trans mb28
                  refine lv_iload_n hx hb gX12_goesOn_9.2.2.2.2.2.2.2 rfl (lv_at hl 5 rfl) ?_
                  refine lv_iload hx hb gX12_goesOn_10.1 (lv_at hl 2 rfl) ?_
                  have hIo := hB.1
                  refine th_iastF hC hB hb28 (Or.inl hb28) ro_65 rfl (by decide) (Eq.refl _) (by omega) (by omega) (th_sI (by omega) (by omega)) gX12_goesOn_10.2.1 (fun H154 locs hB hf154 hst154 => ?_)
                  have hf := hf154
                  have mm29 := (th_F_o hf h0 ro_46 (j := 39) (by decide) (by decide)).trans mm24
                  have mm30 := (th_F_o hf h0 ro_46 (j := 40) (by decide) (by decide)).trans mm25
                  have mm31 := (th_F_o hf h0 ro_46 (j := 2) (by decide) (by decide)).trans mm26
                  have mm32 := (th_F_o hf h0 ro_46 (j := 35) (by decide) (by decide)).trans mm27
                  have mm33 := (th_F_o hf h0 ro_46 (j := 36) (by decide) (by decide)).trans mb28
                  have hR := th_RC_F hB.1 hR hf (th_T_s hb28 ro_65 hst154) (by decide)
                  have vv_H154_2 : mo_v G H154 a0 2 = mo_v G H146 a0 2 := mo_v_F (r := 48) hB.1 hf h0 rfl ro_48 (by decide) (by decide)
                  have vv_H154_35 : mo_v G H154 a0 35 = mo_v G H146 a0 35 := mo_v_F (r := 64) hB.1 hf h0 rfl ro_64 (by decide) (by decide)
                  replace hF := hF.trans (congrArg (dv_k (f_X12_goesOn_59b d (dv_pre (fun _ _ _ _ _ => dv_z) f_X12_goesOn d))) (dv_bn (dv_stoI hIo hB.1 hU hb28 ow_65 (i := p2.toInt) hst154 (Eq.refl _) (by omega))))
                  have vs154 : mo_v G H154 a0 36 = mo_u (mo_v G H146 a0 36) p2.toInt x4.toInt := by rw [show (p2.toInt : Int) = p2.toInt by omega]; exact mo_v_st h0 hb28 (by decide) mb28 hst154 (by omega)
                  have rw1 := mo_rw_s (n := p2.toInt) (c := j59_7.toInt) (q := x4.toInt) rwA (vv_H154_2.trans vv_H146_2) (by rw [vv_H154_35, vs146]) (by rw [vs154, vv_H146_36]) (by rw [vv_H136_2, vw_H59_2]; omega) (by rw [vv_H136_2, vw_H59_2]; omega)
                  refine lv_aload_n hx hb gX12_goesOn_10.2.2.1 rfl (lv_at hl 3 rfl) ?_
                  refine lv_iload_n hx hb gX12_goesOn_10.2.2.2.1 rfl (lv_at hl 4 rfl) ?_
                  refine lv_iconst (v := 1) hx hb gX12_goesOn_10.2.2.2.2.1 (by decide) ?_
                  refine lv_iload hx hb gX12_goesOn_10.2.2.2.2.2.1 (lv_at hl 7 rfl) ?_
                  refine lv_ishl hx hb gX12_goesOn_10.2.2.2.2.2.2.1 ?_
                  refine lv_topi (fun x34 ex34 => ?_)
                  have lx34 := ti_lo x34; have ux34 := ti_hi x34
                  replace hF := hF.trans (congrArg (dv_k (f_X12_goesOn_59b d (dv_pre (fun _ _ _ _ _ => dv_z) f_X12_goesOn d))) (dv_bn (dv_shl_e tk_1 (Eq.refl _) ex34)))
                  refine lv_iconst (v := (-1)) hx hb gX12_goesOn_10.2.2.2.2.2.2.2 (by decide) ?_
                  refine lv_ixor hx hb gX12_goesOn_11.1 ?_
                  refine lv_topi (fun x35 ex35 => ?_)
                  have lx35 := ti_lo x35; have ux35 := ti_hi x35
                  replace hF := hF.trans (congrArg (dv_k (f_X12_goesOn_59b d (dv_pre (fun _ _ _ _ _ => dv_z) f_X12_goesOn d))) (dv_bn (dv_xor_e (Eq.refl _) tk_m1 ex35)))
                  refine lv_iand hx hb gX12_goesOn_11.2.1 ?_
                  refine lv_topi (fun x36 ex36 => ?_)
                  have lx36 := ti_lo x36; have ux36 := ti_hi x36
                  replace hF := hF.trans (congrArg (dv_k (f_X12_goesOn_59b d (dv_pre (fun _ _ _ _ _ => dv_z) f_X12_goesOn d))) (dv_bn (dv_and_e (Eq.refl _) (Eq.refl _) ex36)))
                  have dr := mo_pc_drop (x := p1) (c := j59_7) (by omega) (by omega) (q71_0 (by omega)) ex34 ex35 ex36
                  refine lv_iload_n hx hb gX12_goesOn_11.2.2.1 rfl (lv_at hl 5 rfl) ?_
                  refine lv_iconst (v := 1) hx hb gX12_goesOn_11.2.2.2.1 (by decide) ?_
                  refine tr_iadd hx hb gX12_goesOn_11.2.2.2.2.1 (Eq.refl _) tk_1 (by omega) (by omega) (fun x37 ex37 => ?_)
                  replace hF := hF.trans (congrArg (dv_k (f_X12_goesOn_59b d (dv_pre (fun _ _ _ _ _ => dv_z) f_X12_goesOn d))) (dv_bn (ex37.symm)))
                  refine lv_iload_n hx hb gX12_goesOn_11.2.2.2.2.2.1 rfl (lv_at hl 6 rfl) ?_
                  refine lv_aload_n hx hb gX12_goesOn_11.2.2.2.2.2.2.1 rfl (lv_at hl 3 rfl) ?_
                  refine lv_iload hx hb gX12_goesOn_11.2.2.2.2.2.2.2 (lv_at hl 7 rfl) ?_
                  refine lv_iload hx hb gX12_goesOn_12.1 (lv_at hl 2 rfl) ?_
                  refine th_call (th_runV (As := [.int j59_7, .int x4]) (rest := [.int p3, .int x37, .int x36, .ref a0]) hC mf_X12_priceAt km_X12_430 im_X12_priceAt se_X12_priceAt (c_X12_priceAt l G Γ H154 hB.1 hU a0 h0 j59_7 (by omega) (by omega) x4 (by omega) (by omega)) rfl rfl ⟨by dsimp only; omega, by dsimp only; omega⟩ hB.1 h0 ro_46 rfl rfl hl.1 rfl (Nat.le_of_ble_eq_true rfl) gX12_goesOn_12.2.1 ⟨Nat.le_refl _, Nat.le_refl _⟩) hB.2.1 (fun v173 H173 locs hp hz hS => ?_)
                  obtain ⟨x38, rfl, q173_0, rfl⟩ := hp
                  have hB := th_B_s hB hS
                  replace hF := hF.trans (congrArg (dv_k (f_X12_goesOn_59b d (dv_pre (fun _ _ _ _ _ => dv_z) f_X12_goesOn d))) (dv_bn2 (q173_0)))
                  refine W.eq (g2 := F0 m 176 ls [.int x38, .int p3, .int x37, .int x36, .ref a0]) rfl ?_
                  refine lv_iadd hx hb gX12_goesOn_12.2.2.1 ?_
                  refine lv_topi (fun x39 ex39 => ?_)
                  have lx39 := ti_lo x39; have ux39 := ti_hi x39
                  replace hF := hF.trans (congrArg (dv_k (f_X12_goesOn_59b d (dv_pre (fun _ _ _ _ _ => dv_z) f_X12_goesOn d))) (dv_bn (dv_add_e (Eq.refl _) (Eq.refl _) ex39)))
                  obtain ⟨d', hd'⟩ : ∃ d', d = d' + 1 := ⟨d - 1, by omega⟩
                  refine th_call (th_runV (As := [.int x36, .int x37, .int x39]) (rest := []) hC mf_X12_goesOn km_X12_433 im_X12_goesOn se_X12_goesOn (ihd d' hd' l G Γ H154 hB.1 hR hU a0 h0 x36 x37 (by omega) (by omega) x39 (by omega) (by rw [show x37.toInt = p2.toInt + 1 by omega]; exact rw1) (by omega)) rfl rfl ⟨by dsimp only; omega, by dsimp only; omega⟩ hB.1 h0 ro_46 rfl rfl hl.1 rfl (Nat.le_of_ble_eq_true rfl) gX12_goesOn_12.2.2.2.1 ⟨Nat.le_refl _, Nat.le_refl _⟩) hB.2.1 (fun v177 H177 locs hp hz hS => ?_)
                  obtain ⟨rfl, hI1, hf, hR, z177_0, z177_1⟩ := hp
                  have hB := th_B_c hB hI1 hS hf (by decide)
                  have mm40 := (th_F_o hf h0 ro_46 (j := 39) (by decide) (by decide)).trans mm29
                  have mm41 := (th_F_o hf h0 ro_46 (j := 40) (by decide) (by decide)).trans mm30
                  have mm42 := (th_F_o hf h0 ro_46 (j := 2) (by decide) (by decide)).trans mm31
                  have mm43 := (th_F_o hf h0 ro_46 (j := 35) (by decide) (by decide)).trans mm32
                  have mm44 := (th_F_o hf h0 ro_46 (j := 36) (by decide) (by decide)).trans mm33
                  have vv_H177_2 : mo_v G H177 a0 2 = mo_v G H154 a0 2 := mo_v_F (r := 48) hB.1 hf h0 rfl ro_48 (by decide) (by decide)
                  have zf177 := z177_1
                  rw [← dv_pre_s (z := (fun _ _ _ _ _ => dv_z)) (f := f_X12_goesOn) hd'] at zf177
                  replace hF := hF.trans (congrArg (dv_k (f_X12_goesOn_59b d (dv_pre (fun _ _ _ _ _ => dv_z) f_X12_goesOn d))) (dv_bn2 (zf177)))
                  refine W.eq (g2 := F0 m 180 ls []) rfl ?_
                  refine lv_aload_n hx hb gX12_goesOn_12.2.2.2.2.1 rfl (lv_at hl 3 rfl) ?_
                  refine lv_aload_n hx hb gX12_goesOn_12.2.2.2.2.2.1 rfl (lv_at hl 3 rfl) ?_
                  refine th_getK hC cf_X12 hB.1 h0 ro_46 rfl (j := 2) (by decide) mm42 kf_X12_28 gX12_goesOn_12.2.2.2.2.2.2.1 ?_
                  refine lv_bipush (v := 29) hx hb gX12_goesOn_12.2.2.2.2.2.2.2 (by decide) ?_
                  refine lv_iload hx hb gX12_goesOn_13.1 (lv_at hl 7 rfl) ?_
                  refine tr_iadd hx hb gX12_goesOn_13.2.1 tk_29 (Eq.refl _) (by omega) (by omega) (fun x45 ex45 => ?_)
                  replace hF := hF.trans (congrArg (dv_k (f_X12_goesOn_59b d (dv_pre (fun _ _ _ _ _ => dv_z) f_X12_goesOn d))) (dv_bn (ex45.symm)))
                  refine th_ialdF hC hB.1 hb14 ro_48 rfl (Eq.refl _) (by omega) (by omega) (ek_side (by omega) (by omega)) gX12_goesOn_13.2.2.1 (fun x46 mx46 lx46 ux46 => ?_)
                  replace hF := hF.trans (congrArg (dv_k (f_X12_goesOn_59b d (dv_pre (fun _ _ _ _ _ => dv_z) f_X12_goesOn d))) (dv_bn (dv_aldI hB.1 hU hb14 ow_48 (z := x45.toInt) mx46 (by omega))))
                  have vgx46 : mo_v G H0 a0 2 (29 + j59_7.toInt) = x46.toInt := by rw [← (mo_v_F (r := 48) hB.1 hB.2.2 h0 rfl ro_48 (by decide) (by decide) : mo_v G H177 a0 2 = _)]; rw [show ((29 + j59_7.toInt) : Int) = x45.toInt by omega]; exact mo_vat mm42 mx46 (by omega)
                  refine lv_iload hx hb gX12_goesOn_13.2.2.2.1 (lv_at hl 1 rfl) ?_
                  refine lv_iload hx hb gX12_goesOn_13.2.2.2.2.1 (lv_at hl 0 rfl) ?_
                  refine th_call (th_runV (As := [.int x46, .int x5, .int x6]) (rest := []) hC mf_X12_turnsSquare km_X12_345 im_X12_turnsSquare se_X12_turnsSquare (c_X12_turnsSquare l G Γ H177 hB.1 hR hU a0 h0 x46 (by omega) (by omega) x5 (by omega) (by omega) x6 (by omega) (by omega) (by omega)) rfl rfl ⟨by dsimp only; omega, by dsimp only; omega⟩ hB.1 h0 ro_46 rfl rfl hl.1 rfl (Nat.le_of_ble_eq_true rfl) gX12_goesOn_13.2.2.2.2.2.1 ⟨Nat.le_refl _, Nat.le_refl _⟩) hB.2.1 (fun v195 H195 locs hp hz hS => ?_)
                  obtain ⟨rfl, hI1, hf, hR, z195_0, z195_1⟩ := hp
                  have hB := th_B_c hB hI1 hS hf (by decide)
                  have mm47 := (th_F_o hf h0 ro_46 (j := 39) (by decide) (by decide)).trans mm40
                  have mm48 := (th_F_o hf h0 ro_46 (j := 40) (by decide) (by decide)).trans mm41
                  have mm49 := (th_F_o hf h0 ro_46 (j := 2) (by decide) (by decide)).trans mm42
                  have mm50 := (th_F_o hf h0 ro_46 (j := 35) (by decide) (by decide)).trans mm43
                  have mm51 := (th_F_o hf h0 ro_46 (j := 36) (by decide) (by decide)).trans mm44
                  have vv_H195_2 : mo_v G H195 a0 2 = mo_v G H177 a0 2 := mo_v_F (r := 48) hB.1 hf h0 rfl ro_48 (by decide) (by decide)
                  have vv_H195_35 : mo_v G H195 a0 35 = mo_v G H177 a0 35 := mo_v_F (r := 64) hB.1 hf h0 rfl ro_64 (by decide) (by decide)
                  have vv_H195_36 : mo_v G H195 a0 36 = mo_v G H177 a0 36 := mo_v_F (r := 65) hB.1 hf h0 rfl ro_65 (by decide) (by decide)
                  replace hF := hF.trans (congrArg (dv_k (f_X12_goesOn_59b d (dv_pre (fun _ _ _ _ _ => dv_z) f_X12_goesOn d))) (dv_bn2 (z195_1)))
                  refine W.eq (g2 := F0 m 198 ls []) rfl ?_
                  refine tr_iinc (fun x52 => [(7, .int x52), (6, .int x6), (5, .int x5), (4, .int x4), (0, .ref a0), (1, .int p1), (2, .int p2), (3, .int p3)]) hx hb gX12_goesOn_13.2.2.2.2.2.2.1 hl (k := 7) rfl (Eq.refl _) tk_1 (by omega) (by omega) (by decide) (fun _ => rfl) (fun x52 ls ex52 hl => ?_)
                  replace hF := hF.trans (congrArg (dv_k (f_X12_goesOn_59b d (dv_pre (fun _ _ _ _ _ => dv_z) f_X12_goesOn d))) (dv_bn (ex52.symm)))
                  refine lv_goto (tgt := 59) hx hb gX12_goesOn_13.2.2.2.2.2.2.2 (by decide) ?_
                  replace hF := hF.trans (dv_kl)
                  exact ih59 H195 locs ls x52 hB hR (lv_sub hl [1, 2, 3, 4, 5, 6, 7, 0] rfl) hF (by omega) (by omega) (mo_rw_le (mo_rw_F z177_0 hB.1 h0 hf (by decide)) (by omega)) (by omega)
                · replace hF := hF.trans (congrArg (dv_k (f_X12_goesOn_59b d (dv_pre (fun _ _ _ _ _ => dv_z) f_X12_goesOn d))) (if_neg (not_not_intro c115)))
                  refine lv_goto (tgt := 198) hx hb gX12_goesOn_7.2.2.2.2.2.1 (by decide) ?_
                  refine tr_iinc (fun x53 => [(7, .int x53), (6, .int x6), (5, .int x5), (4, .int x4), (0, .ref a0), (1, .int p1), (2, .int p2), (3, .int p3)]) hx hb gX12_goesOn_13.2.2.2.2.2.2.1 hl (k := 7) rfl (Eq.refl _) tk_1 (by omega) (by omega) (by decide) (fun _ => rfl) (fun x53 ls ex53 hl => ?_)
                  replace hF := hF.trans (congrArg (dv_k (f_X12_goesOn_59b d (dv_pre (fun _ _ _ _ _ => dv_z) f_X12_goesOn d))) (dv_bn (ex53.symm)))
                  refine lv_goto (tgt := 59) hx hb gX12_goesOn_13.2.2.2.2.2.2.2 (by decide) ?_
                  replace hF := hF.trans (dv_kl)
                  exact ih59 H59 locs ls x53 hB hR (lv_sub hl [1, 2, 3, 4, 5, 6, 7, 0] rfl) hF (by omega) (by omega) g59_2 (by omega)
      exact lp59 ((2147483648 : Int) - (0)).toNat H0 locs ls 0 hB hR (lv_sub hl [1, 2, 3, 4, 5, 6, 7, 0] rfl) (by rw [tk_0]; exact hF) (by decide) (by decide) k2 (by have w0 := tk_0; omega)
    · replace hF := hF.trans (if_neg (not_not_intro c32))
      refine lv_aload_n hx hb gX12_goesOn_2.2.1 rfl (lv_at hl 1 rfl) ?_
      refine lv_iload_n hx hb gX12_goesOn_2.2.2.1 rfl (lv_at hl 3 rfl) ?_
      refine lv_iload_n hx hb gX12_goesOn_2.2.2.2.1 rfl (lv_at hl 4 rfl) ?_
      refine th_call (th_runV (As := [.int p2, .int p3]) (rest := []) hC mf_X12_fills km_X12_427 im_X12_fills se_X12_fills (c_X12_fills l G Γ H0 hB.1 hR hU a0 h0 p2 (by omega) (by omega) p3 k2) rfl rfl ⟨by dsimp only; omega, by dsimp only; omega⟩ hB.1 h0 ro_46 rfl rfl hl.1 rfl (Nat.le_of_ble_eq_true rfl) gX12_goesOn_2.2.2.2.2.1 ⟨Nat.le_refl _, Nat.le_refl _⟩) hB.2.1 (fun v38 H38 locs hp hz hS => ?_)
      obtain ⟨rfl, hI1, hf, hR, z38_0⟩ := hp
      have hB := th_B_c hB hI1 hS hf (by decide)
      have mm54 := (th_F_o hf h0 ro_46 (j := 39) (by decide) (by decide)).trans mx2
      have mm55 := (th_F_o hf h0 ro_46 (j := 40) (by decide) (by decide)).trans mx3
      have vv_H38_2 : mo_v G H38 a0 2 = mo_v G H0 a0 2 := mo_v_F (r := 48) hB.1 hf h0 rfl ro_48 (by decide) (by decide)
      have vv_H38_35 : mo_v G H38 a0 35 = mo_v G H0 a0 35 := mo_v_F (r := 64) hB.1 hf h0 rfl ro_64 (by decide) (by decide)
      have vv_H38_36 : mo_v G H38 a0 36 = mo_v G H0 a0 36 := mo_v_F (r := 65) hB.1 hf h0 rfl ro_65 (by decide) (by decide)
      replace hF := hF.trans (dv_bn2 (z38_0))
      refine W.eq (g2 := F0 m 41 ls []) rfl ?_
      exact th_vret hC hH hr hlocks hB.2.1 ⟨rfl, hB.1, hB.2.2, hR, (mo_rw_F k2 hB.1 h0 hf (by decide)), (hF0.symm.trans hF)⟩ gX12_goesOn_2.2.2.2.2.2.1
  refine tr_if_eq (tgt := 15) hx hb gX12_goesOn_0.2.2.1 (by decide) (Eq.refl _) (fun c4 => ?_) (fun c4 => ?_)
  · replace hF := hF.trans (if_pos c4)
    exact jn15 [] ls hB (lv_sub hl [0, 1, 2, 3] rfl) hF
  · replace hF := hF.trans (if_neg c4)
    refine lv_aload_n hx hb gX12_goesOn_0.2.2.2.1 rfl (lv_at hl 0 rfl) ?_
    refine th_getI (j := 41) hC cf_X12 hB.1 h0 ro_46 rfl rfl kf_X12_406 gX12_goesOn_0.2.2.2.2.1 (fun x56 mx56 lx56 ux56 => ?_)
    replace hF := hF.trans (dv_bn (dv_getI h0 ro_46 (j := 41) rfl mx56 (by decide)))
    refine tr_if_le (tgt := 15) hx hb gX12_goesOn_0.2.2.2.2.2.1 (by decide) (Eq.refl _) (fun c11 => ?_) (fun c11 => ?_)
    · replace hF := hF.trans (if_pos c11)
      exact jn15 [] ls hB (lv_sub hl [0, 1, 2, 3] rfl) hF
    · replace hF := hF.trans (if_neg (Int.not_le.mpr c11))
      exact th_vret hC hH hr hlocks hB.2.1 ⟨rfl, hB.1, hB.2.2, hR, k2, (hF0.symm.trans hF)⟩ gX12_goesOn_0.2.2.2.2.2.2.1
theorem c_X12_goesOn_d (d : Nat) : s_X12_goesOn d := by
  induction d with
  | zero => exact c_X12_goesOn_s 0 (fun d' h => absurd h (by omega))
  | succ d ih => exact c_X12_goesOn_s (d + 1) (fun d' h => by cases h; exact ih)
theorem c_X12_goesOn (l : Launch) (G : th_G) (Γ : th_Ga) (H0 : Heap) (hI : th_I G Γ H0) (hR : th_RC G Γ H0) (hU : dv_U Γ) (a0 : Nat) (h0 : Γ a0 = (46, 0)) (p1 : Int32) (p2 : Int32) (f2 : 0 ≤ p2.toInt) (g2 : p2.toInt ≤ 9) (p3 : Int32) (k1 : ((mo_pc p1 : Nat) : Int) + p2.toInt ≤ 9) (k2 : mo_rw G H0 a0 p2.toInt) : Met l yX12_goesOn (.code yX12_goesOn cX12_goesOn 8 (none) :: th_tb) ({ frames := 15, cells := 0, slots := 0, locals := 386 } : Room) (th_P [.ref a0, .int p1, .int p2, .int p3] G H0) (th_Q (fun (v : Option Value) (H1 : Heap) => v = none ∧ th_I G Γ H1 ∧ th_F G Γ [(46, 41), (46, 42), (46, 43), (67, 0), (66, 0), (59, 0), (64, 0), (65, 0)] H0 H1 ∧ th_RC G Γ H1 ∧ (mo_rw G H1 a0 p2.toInt) ∧ (f_X12_goesOn 9 (dv G Γ H0) (a0 : Int) p1.toInt p2.toInt p3.toInt = (dv G Γ H1, 0))) G) 0 0 (fun q => G.1.2.2 ≤ q) := c_X12_goesOn_d 9 l G Γ H0 hI hR hU a0 h0 p1 p2 f2 g2 p3 k1 k2 (by omega)

set_option maxHeartbeats 4000000 in
set_option maxRecDepth 100000 in
theorem c_X12_goesThrough (l : Launch) (G : th_G) (Γ : th_Ga) (H0 : Heap) (hI : th_I G Γ H0) (hR : th_RC G Γ H0) (hU : dv_U Γ) (a0 : Nat) (h0 : Γ a0 = (46, 0)) (p1 : Int32) (p2 : Int32) (f2 : 0 ≤ p2.toInt) (g2 : p2.toInt ≤ 12) (p3 : Int32) (f3 : 0 ≤ p3.toInt) (g3 : p3.toInt ≤ 12) : Met l yX12_goesThrough (.code yX12_goesThrough cX12_goesThrough 4 (none) :: th_tb) ({ frames := 16, cells := 0, slots := 0, locals := 413 } : Room) (th_P [.ref a0, .int p1, .int p2, .int p3] G H0) (th_Q (fun (v : Option Value) (H1 : Heap) => v = none ∧ th_I G Γ H1 ∧ th_F G Γ [(46, 41), (46, 42), (46, 43), (67, 0), (66, 0), (59, 0), (64, 0), (65, 0), (46, 39), (46, 40)] H0 H1 ∧ th_RC G Γ H1 ∧ (f_X12_goesThrough (dv G Γ H0) (a0 : Int) p1.toInt p2.toInt p3.toInt = (dv G Γ H1, 0))) G) 0 0 (fun q => G.1.2.2 ≤ q) := by
  refine th_met RX12 (by decide) rfl (Nat.le_of_ble_eq_true rfl) ?_
  intro p e s m below meth c hC hH hr hlocks hnm ls hl
  have hx := hC.1
  have hb := hC.2.1
  have hB : th_B G Γ Γ [(46, 41), (46, 42), (46, 43), (67, 0), (66, 0), (59, 0), (64, 0), (65, 0), (46, 39), (46, 40)] H0 H0 [] := ⟨hI, va_S.rf, th_F_rf⟩
  have hl : lv_has ls 4 [(0, .ref a0), (1, .int p1), (2, .int p2), (3, .int p3)] := hl
  have lp1 := ti_lo p1; have up1 := ti_hi p1
  have lp2 := ti_lo p2; have up2 := ti_hi p2
  have lp3 := ti_lo p3; have up3 := ti_hi p3
  obtain ⟨F, hF0⟩ : ∃ F, F = f_X12_goesThrough (dv G Γ H0) ((a0 : Int)) (p1.toInt) (p2.toInt) (p3.toInt) := ⟨_, rfl⟩
  have hF := hF0.trans (f_X12_goesThrough.eq_1 (dv G Γ H0) ((a0 : Int)) (p1.toInt) (p2.toInt) (p3.toInt))
  refine lv_aload_n hx hb gX12_goesThrough_0.1 rfl (lv_at hl 0 rfl) ?_
  refine lv_iload_n hx hb gX12_goesThrough_0.2.1 rfl (lv_at hl 2 rfl) ?_
  refine th_put hC cf_X12 hB h0 (Or.inl h0) ro_46 rfl (j := 39) rfl (th_sI (by omega) (by omega)) (by decide) rfl rfl rfl kf_X12_421 gX12_goesThrough_0.2.2.1 (fun H2 locs hB hf hst2 => ?_)
  have hR := th_RC_F hB.1 hR hf (th_T_s h0 ro_46 hst2) (by decide)
  replace hF := hF.trans (dv_bn (dv_putI hB.1 h0 ro_46 (j := 39) rfl (th_apart hC cf_X12) hst2 (Eq.refl _) (by decide)))
  refine lv_aload_n hx hb gX12_goesThrough_0.2.2.2.1 rfl (lv_at hl 0 rfl) ?_
  refine lv_iload_n hx hb gX12_goesThrough_0.2.2.2.2.1 rfl (lv_at hl 3 rfl) ?_
  refine th_put hC cf_X12 hB h0 (Or.inl h0) ro_46 rfl (j := 40) rfl (th_sI (by omega) (by omega)) (by decide) rfl rfl rfl kf_X12_424 gX12_goesThrough_0.2.2.2.2.2.1 (fun H7 locs hB hf hst7 => ?_)
  have hR := th_RC_F hB.1 hR hf (th_T_s h0 ro_46 hst7) (by decide)
  replace hF := hF.trans (dv_bn (dv_putI hB.1 h0 ro_46 (j := 40) rfl (th_apart hC cf_X12) hst7 (Eq.refl _) (by decide)))
  refine lv_aload_n hx hb gX12_goesThrough_0.2.2.2.2.2.2.1 rfl (lv_at hl 0 rfl) ?_
  refine lv_iconst (v := 0) hx hb gX12_goesThrough_0.2.2.2.2.2.2.2 (by decide) ?_
  refine th_put hC cf_X12 hB h0 (Or.inl h0) ro_46 rfl (j := 41) rfl th_sIa (by decide) rfl rfl rfl kf_X12_406 gX12_goesThrough_1.1 (fun H12 locs hB hf hst12 => ?_)
  have hR := th_RC_F hB.1 hR hf (th_T_s h0 ro_46 hst12) (by decide)
  replace hF := hF.trans (dv_bn (dv_putI hB.1 h0 ro_46 (j := 41) rfl (th_apart hC cf_X12) hst12 tk_0 (by decide)))
  refine lv_aload_n hx hb gX12_goesThrough_1.2.1 rfl (lv_at hl 0 rfl) ?_
  refine lv_iconst (v := 0) hx hb gX12_goesThrough_1.2.2.1 (by decide) ?_
  refine th_put hC cf_X12 hB h0 (Or.inl h0) ro_46 rfl (j := 42) rfl (th_sI (by decide) (by decide)) (by decide) rfl rfl rfl kf_X12_415 gX12_goesThrough_1.2.2.2.1 (fun H17 locs hB hf hst17 => ?_)
  have hR := th_RC_F hB.1 hR hf (th_T_s h0 ro_46 hst17) (by decide)
  replace hF := hF.trans (dv_bn (dv_putI hB.1 h0 ro_46 (j := 42) rfl (th_apart hC cf_X12) hst17 tk_0 (by decide)))
  refine lv_aload_n hx hb gX12_goesThrough_1.2.2.2.2.1 rfl (lv_at hl 0 rfl) ?_
  refine lv_ldc (v := 1000000) hx hb hC.2.2.2.1 (hC.2.2.2.2.1 _ kw_1623) gX12_goesThrough_1.2.2.2.2.2.1 ?_
  refine th_put hC cf_X12 hB h0 (Or.inl h0) ro_46 rfl (j := 43) rfl th_sIa (by decide) rfl rfl rfl kf_X12_409 gX12_goesThrough_1.2.2.2.2.2.2.1 (fun H23 locs hB hf hst23 => ?_)
  have hR := th_RC_F hB.1 hR hf (th_T_s h0 ro_46 hst23) (by decide)
  replace hF := hF.trans (dv_bn (dv_putI hB.1 h0 ro_46 (j := 43) rfl (th_apart hC cf_X12) hst23 tk_1000000 (by decide)))
  refine lv_aload_n hx hb gX12_goesThrough_1.2.2.2.2.2.2.2 rfl (lv_at hl 0 rfl) ?_
  refine lv_iload_n hx hb gX12_goesThrough_2.1 rfl (lv_at hl 1 rfl) ?_
  refine lv_iconst (v := 0) hx hb gX12_goesThrough_2.2.1 (by decide) ?_
  refine lv_iconst (v := 0) hx hb gX12_goesThrough_2.2.2.1 (by decide) ?_
  refine th_call (th_runV (As := [.int p1, .int 0, .int 0]) (rest := []) hC mf_X12_goesOn km_X12_433 im_X12_goesOn se_X12_goesOn (c_X12_goesOn l G Γ H23 hB.1 hR hU a0 h0 p1 0 (by decide) (by decide) 0 (by have w0 := tk_0; have w1 := mo_pc9 p1; omega) (mo_rw_0 (by decide))) rfl rfl ⟨Nat.le_of_ble_eq_true rfl, Nat.le_of_ble_eq_true rfl⟩ hB.1 h0 ro_46 rfl rfl hl.1 rfl (Nat.le_of_ble_eq_true rfl) gX12_goesThrough_2.2.2.2.1 ⟨Nat.le_refl _, Nat.le_refl _⟩) hB.2.1 (fun v30 H30 locs hp hz hS => ?_)
  obtain ⟨rfl, hI1, hf, hR, z30_0, z30_1⟩ := hp
  have hB := th_B_c hB hI1 hS hf (by decide)
  have zf30 := z30_1
  rw [tk_0] at zf30
  replace hF := hF.trans (dv_bn2 (zf30))
  refine W.eq (g2 := F0 m 33 ls []) rfl ?_
  exact th_vret hC hH hr hlocks hB.2.1 ⟨rfl, hB.1, hB.2.2, hR, (hF0.symm.trans hF)⟩ gX12_goesThrough_2.2.2.2.2

set_option maxHeartbeats 4000000 in
set_option maxRecDepth 100000 in
theorem c_X12_fillsNow (l : Launch) (G : th_G) (Γ : th_Ga) (H0 : Heap) (hI : th_I G Γ H0) (hU : dv_U Γ) (a0 : Nat) (h0 : Γ a0 = (46, 0)) (hR : th_RK a0 G Γ H0) (p1 : Int32) (f1 : 0 ≤ p1.toInt) (g1 : p1.toInt ≤ 1) : Met l yX12_fillsNow (.code yX12_fillsNow cX12_fillsNow 3 (none) :: th_tb) ({ frames := 53, cells := 0, slots := 0, locals := 1675 } : Room) (th_P [.ref a0, .int p1] G H0) (th_Q (fun (v : Option Value) (H1 : Heap) => v = none ∧ th_I G Γ H1 ∧ th_F G Γ [(46, 41), (46, 42), (46, 43), (67, 0), (66, 0), (59, 0), (64, 0), (65, 0), (46, 39), (46, 40), (63, 0), (46, 44), (46, 45), (46, 22), (46, 24), (58, 0), (46, 23), (46, 25)] H0 H1 ∧ th_RK a0 G Γ H1 ∧ (f_X12_fillsNow (dv G Γ H0) (a0 : Int) p1.toInt = (dv G Γ H1, 0))) G) 0 0 (fun q => G.1.2.2 ≤ q) := by
  refine th_met RX12 (by decide) rfl (Nat.le_of_ble_eq_true rfl) ?_
  intro p e s m below meth c hC hH hr hlocks hnm ls hl
  have hx := hC.1
  have hb := hC.2.1
  have hB : th_B G Γ Γ [(46, 41), (46, 42), (46, 43), (67, 0), (66, 0), (59, 0), (64, 0), (65, 0), (46, 39), (46, 40), (63, 0), (46, 44), (46, 45), (46, 22), (46, 24), (58, 0), (46, 23), (46, 25)] H0 H0 [] := ⟨hI, va_S.rf, th_F_rf⟩
  have hl : lv_has ls 3 [(0, .ref a0), (1, .int p1)] := hl
  have lp1 := ti_lo p1; have up1 := ti_hi p1
  obtain ⟨F, hF0⟩ : ∃ F, F = f_X12_fillsNow (dv G Γ H0) ((a0 : Int)) (p1.toInt) := ⟨_, rfl⟩
  have hF := hF0.trans (f_X12_fillsNow.eq_1 (dv G Γ H0) ((a0 : Int)) (p1.toInt))
  refine lv_aload_n hx hb gX12_fillsNow_0.1 rfl (lv_at hl 0 rfl) ?_
  refine th_call (th_runV (As := []) (rest := []) hC mf_X12_rolledWhole km_X12_436 im_X12_rolledWhole se_X12_rolledWhole (c_X12_rolledWhole l G Γ H0 hB.1 hU a0 h0) rfl rfl ⟨Nat.le_of_ble_eq_true rfl, Nat.le_of_ble_eq_true rfl⟩ hB.1 h0 ro_46 rfl rfl hl.1 rfl (Nat.le_of_ble_eq_true rfl) gX12_fillsNow_0.2.1 ⟨Nat.le_refl _, Nat.le_refl _⟩) hB.2.1 (fun v1 H1 locs hp hz hS => ?_)
  obtain ⟨x1, rfl, q1_0, rfl⟩ := hp
  have hB := th_B_s hB hS
  replace hF := hF.trans (dv_bn2 (q1_0))
  refine W.eq (g2 := F0 m 4 ls [.int x1]) rfl ?_
  refine lv_istore_n (lv' := [(2, .int x1), (0, .ref a0), (1, .int p1)]) hx hb gX12_fillsNow_0.2.2.1 rfl hl (by decide) rfl (fun ls hl => ?_)
  refine lv_aload_n hx hb gX12_fillsNow_0.2.2.2.1 rfl (lv_at hl 1 rfl) ?_
  refine lv_iload_n hx hb gX12_fillsNow_0.2.2.2.2.1 rfl (lv_at hl 0 rfl) ?_
  refine th_call (th_runV (As := [.int x1]) (rest := []) hC mf_X12_laysPrices km_X12_439 im_X12_laysPrices se_X12_laysPrices (c_X12_laysPrices l G Γ H0 hB.1 hU a0 h0 (th_KE hR) x1) rfl rfl ⟨Nat.le_of_ble_eq_true rfl, Nat.le_of_ble_eq_true rfl⟩ hB.1 h0 ro_46 rfl rfl hl.1 rfl (Nat.le_of_ble_eq_true rfl) gX12_fillsNow_0.2.2.2.2.2.1 ⟨Nat.le_refl _, Nat.le_refl _⟩) hB.2.1 (fun v7 H7 locs hp hz hS => ?_)
  have hRD := hR
  obtain ⟨rfl, hI1, hf, hR, z7_0⟩ := hp
  have hR := th_RK_c hR.1 hRD hI1 h0 hf (by decide)
  have hB := th_B_c hB hI1 hS hf (by decide)
  replace hF := hF.trans (dv_bn2 (z7_0))
  refine W.eq (g2 := F0 m 10 ls []) rfl ?_
  refine lv_aload_n hx hb gX12_fillsNow_0.2.2.2.2.2.2.1 rfl (lv_at hl 1 rfl) ?_
  refine th_call (th_runV (As := []) (rest := []) hC mf_X12_laysCovered km_X12_351 im_X12_laysCovered se_X12_laysCovered (c_X12_laysCovered l G Γ H7 hB.1 hU a0 h0 hR) rfl rfl ⟨Nat.le_of_ble_eq_true rfl, Nat.le_of_ble_eq_true rfl⟩ hB.1 h0 ro_46 rfl rfl hl.1 rfl (Nat.le_of_ble_eq_true rfl) gX12_fillsNow_0.2.2.2.2.2.2.2 ⟨Nat.le_refl _, Nat.le_refl _⟩) hB.2.1 (fun v11 H11 locs hp hz hS => ?_)
  obtain ⟨rfl, hI1, hf, hR, z11_0, z11_1⟩ := hp
  have hB := th_B_c hB hI1 hS hf (by decide)
  replace hF := hF.trans (dv_bn2 (z11_1))
  refine W.eq (g2 := F0 m 14 ls []) rfl ?_
  refine lv_aload_n hx hb gX12_fillsNow_1.1 rfl (lv_at hl 1 rfl) ?_
  refine lv_iload_n hx hb gX12_fillsNow_1.2.1 rfl (lv_at hl 2 rfl) ?_
  refine th_put hC cf_X12 hB h0 (Or.inl h0) ro_46 rfl (j := 44) rfl (th_sI (by omega) (by omega)) (by decide) rfl (th_nb (by omega) (by omega)) (th_fb (by omega) (by omega)) kf_X12_400 gX12_fillsNow_1.2.2.1 (fun H16 locs hB hf hst16 => ?_)
  have hR := th_RK_F hB.1 hR h0 hf (th_T_s h0 ro_46 hst16) (by decide)
  replace hF := hF.trans (dv_bn (dv_putI hB.1 h0 ro_46 (j := 44) rfl (th_apart hC cf_X12) hst16 (Eq.refl _) (by decide)))
  refine lv_aload_n hx hb gX12_fillsNow_1.2.2.2.1 rfl (lv_at hl 1 rfl) ?_
  refine lv_iconst (v := 0) hx hb gX12_fillsNow_1.2.2.2.2.1 (by decide) ?_
  refine th_put hC cf_X12 hB h0 (Or.inl h0) ro_46 rfl (j := 45) rfl (th_sI (by decide) (by decide)) (by decide) rfl narrow_b0 rfl kf_X12_418 gX12_fillsNow_1.2.2.2.2.2.1 (fun H21 locs hB hf hst21 => ?_)
  have hR := th_RK_F hB.1 hR h0 hf (th_T_s h0 ro_46 hst21) (by decide)
  replace hF := hF.trans (dv_bn (dv_putI hB.1 h0 ro_46 (j := 45) rfl (th_apart hC cf_X12) hst21 tk_0 (by decide)))
  refine lv_aload_n hx hb gX12_fillsNow_1.2.2.2.2.2.2.1 rfl (lv_at hl 1 rfl) ?_
  refine lv_iload_n hx hb gX12_fillsNow_1.2.2.2.2.2.2.2 rfl (lv_at hl 0 rfl) ?_
  refine lv_aload_n hx hb gX12_fillsNow_2.1 rfl (lv_at hl 1 rfl) ?_
  refine th_getO (j := 2) (r2 := 48) hC cf_X12 hB.1 h0 ro_46 rfl rfl kf_X12_28 gX12_fillsNow_2.2.1 (fun b2 mb2 hb2 => ?_)
  have sb2 := (th_F_o hB.2.2 h0 ro_46 (j := 2) (by decide) (by decide)).symm.trans mb2
  refine lv_bipush (v := 67) hx hb gX12_fillsNow_2.2.2.1 (by decide) ?_
  refine th_ialdF hC hB.1 hb2 ro_48 rfl tk_67 (by omega) (by omega) (ek_hall (by omega) (by omega)) gX12_fillsNow_2.2.2.2.1 (fun x3 mx3 lx3 ux3 => ?_)
  replace hF := hF.trans (dv_bn (dv_aldI hB.1 hU hb2 ow_48 (z := 67) mx3 (by omega)))
  refine lv_aload_n hx hb gX12_fillsNow_2.2.2.2.2.1 rfl (lv_at hl 1 rfl) ?_
  refine th_getK hC cf_X12 hB.1 h0 ro_46 rfl (j := 2) (by decide) mb2 kf_X12_28 gX12_fillsNow_2.2.2.2.2.2.1 ?_
  refine lv_bipush (v := 68) hx hb gX12_fillsNow_2.2.2.2.2.2.2.1 (by decide) ?_
  refine th_ialdF hC hB.1 hb2 ro_48 rfl tk_68 (by omega) (by omega) (ek_hall (by omega) (by omega)) gX12_fillsNow_2.2.2.2.2.2.2.2 (fun x4 mx4 lx4 ux4 => ?_)
  replace hF := hF.trans (dv_bn (dv_aldI hB.1 hU hb2 ow_48 (z := 68) mx4 (by omega)))
  refine th_call (th_runV (As := [.int x1, .int x3, .int x4]) (rest := []) hC mf_X12_goesThrough km_X12_442 im_X12_goesThrough se_X12_goesThrough (c_X12_goesThrough l G Γ H21 hB.1 hR.1 hU a0 h0 x1 x3 (by omega) (by omega) x4 (by omega) (by omega)) rfl rfl ⟨Nat.le_of_ble_eq_true rfl, Nat.le_of_ble_eq_true rfl⟩ hB.1 h0 ro_46 rfl rfl hl.1 rfl (Nat.le_of_ble_eq_true rfl) gX12_fillsNow_3.1 ⟨Nat.le_refl _, Nat.le_refl _⟩) hB.2.1 (fun v40 H40 locs hp hz hS => ?_)
  have hRD := hR
  obtain ⟨rfl, hI1, hf, hR, z40_0⟩ := hp
  have hR := th_RK_c hR hRD hI1 h0 hf (by decide)
  have hB := th_B_c hB hI1 hS hf (by decide)
  have mm5 := (th_F_o hf h0 ro_46 (j := 2) (by decide) (by decide)).trans mb2
  replace hF := hF.trans (dv_bn2 (z40_0))
  refine W.eq (g2 := F0 m 43 ls []) rfl ?_
  exact th_vret hC hH hr hlocks hB.2.1 ⟨rfl, hB.1, hB.2.2, hR, (hF0.symm.trans hF)⟩ gX12_fillsNow_3.2

set_option maxHeartbeats 4000000 in
set_option maxRecDepth 100000 in
theorem c_X12_fill (l : Launch) (G : th_G) (Γ : th_Ga) (H0 : Heap) (hI : th_I G Γ H0) (hU : dv_U Γ) (a0 : Nat) (h0 : Γ a0 = (46, 0)) (hR : th_RK a0 G Γ H0) (p1 : Int32) : Met l yX12_fill (.code yX12_fill cX12_fill 2 (some FieldType.int) :: th_tb) ({ frames := 54, cells := 0, slots := 0, locals := 1697 } : Room) (th_P [.ref a0, .int p1] G H0) (th_Q (fun (v : Option Value) (H1 : Heap) => ∃ r : Int32, v = some (.int r) ∧ th_I G Γ H1 ∧ th_F G Γ [(46, 41), (46, 42), (46, 43), (67, 0), (66, 0), (59, 0), (64, 0), (65, 0), (46, 39), (46, 40), (63, 0), (46, 44), (46, 45), (46, 22), (46, 24), (58, 0), (46, 23), (46, 25)] H0 H1 ∧ th_RK a0 G Γ H1 ∧ (f_X12_fill (dv G Γ H0) (a0 : Int) p1.toInt = (dv G Γ H1, r.toInt))) G) 0 0 (fun q => G.1.2.2 ≤ q) := by
  refine th_met RX12 (by decide) rfl (Nat.le_of_ble_eq_true rfl) ?_
  intro p e s m below meth c hC hH hr hlocks hnm ls hl
  have hx := hC.1
  have hb := hC.2.1
  have hB : th_B G Γ Γ [(46, 41), (46, 42), (46, 43), (67, 0), (66, 0), (59, 0), (64, 0), (65, 0), (46, 39), (46, 40), (63, 0), (46, 44), (46, 45), (46, 22), (46, 24), (58, 0), (46, 23), (46, 25)] H0 H0 [] := ⟨hI, va_S.rf, th_F_rf⟩
  have hl : lv_has ls 2 [(0, .ref a0), (1, .int p1)] := hl
  have lp1 := ti_lo p1; have up1 := ti_hi p1
  obtain ⟨F, hF0⟩ : ∃ F, F = f_X12_fill (dv G Γ H0) ((a0 : Int)) (p1.toInt) := ⟨_, rfl⟩
  have hF := hF0.trans (f_X12_fill.eq_1 (dv G Γ H0) ((a0 : Int)) (p1.toInt))
  refine lv_iload_n hx hb gX12_fill_0.1 rfl (lv_at hl 1 rfl) ?_
  refine lv_iconst (v := (-1)) hx hb gX12_fill_0.2.1 (by decide) ?_
  refine tr_icmp_ge (tgt := 7) hx hb gX12_fill_0.2.2.1 (by decide) (Eq.refl _) tk_m1 (fun c2 => ?_) (fun c2 => ?_)
  · replace hF := hF.trans (if_pos c2)
    refine lv_aload_n hx hb gX12_fill_0.2.2.2.2.2.1 rfl (lv_at hl 0 rfl) ?_
    refine lv_iconst (v := 0) hx hb gX12_fill_0.2.2.2.2.2.2.1 (by decide) ?_
    refine th_call (th_runV (As := [.int 0]) (rest := []) hC mf_X12_fillsNow km_X12_445 im_X12_fillsNow se_X12_fillsNow (c_X12_fillsNow l G Γ H0 hB.1 hU a0 h0 hR 0 (by decide) (by decide)) rfl rfl ⟨Nat.le_of_ble_eq_true rfl, Nat.le_of_ble_eq_true rfl⟩ hB.1 h0 ro_46 rfl rfl hl.1 rfl (Nat.le_of_ble_eq_true rfl) gX12_fill_0.2.2.2.2.2.2.2 ⟨Nat.le_refl _, Nat.le_refl _⟩) hB.2.1 (fun v9 H9 locs hp hz hS => ?_)
    obtain ⟨rfl, hI1, hf, hR, z9_0⟩ := hp
    have hB := th_B_c hB hI1 hS hf (by decide)
    have zf9 := z9_0
    rw [tk_0] at zf9
    replace hF := hF.trans (dv_bn2 (zf9))
    refine W.eq (g2 := F0 m 12 ls []) rfl ?_
    refine lv_aload_n hx hb gX12_fill_1.1 rfl (lv_at hl 0 rfl) ?_
    refine th_getI (j := 41) hC cf_X12 hB.1 h0 ro_46 rfl rfl kf_X12_406 gX12_fill_1.2.1 (fun x1 mx1 lx1 ux1 => ?_)
    replace hF := hF.trans (dv_bn (dv_getI h0 ro_46 (j := 41) rfl mx1 (by decide)))
    refine tr_if_ne (tgt := 21) hx hb gX12_fill_1.2.2.1 (by decide) (Eq.refl _) (fun c16 => ?_) (fun c16 => ?_)
    · replace hF := hF.trans (if_pos c16)
      refine lv_iload_n hx hb gX12_fill_1.2.2.2.2.2.1 rfl (lv_at hl 1 rfl) ?_
      refine lv_iconst (v := (-1)) hx hb gX12_fill_1.2.2.2.2.2.2.1 (by decide) ?_
      refine tr_icmp_ne (tgt := 33) hx hb gX12_fill_1.2.2.2.2.2.2.2 (by decide) (Eq.refl _) tk_m1 (fun c23 => ?_) (fun c23 => ?_)
      · replace hF := hF.trans (if_pos c23)
        refine lv_iload_n hx hb gX12_fill_2.2.2.2.1 rfl (lv_at hl 1 rfl) ?_
        refine lv_aload_n hx hb gX12_fill_2.2.2.2.2.1 rfl (lv_at hl 0 rfl) ?_
        refine th_getI (j := 42) hC cf_X12 hB.1 h0 ro_46 rfl rfl kf_X12_415 gX12_fill_2.2.2.2.2.2.1 (fun x2 mx2 lx2 ux2 => ?_)
        replace hF := hF.trans (dv_bn (dv_getI h0 ro_46 (j := 42) rfl mx2 (by decide)))
        refine tr_icmp_ge (tgt := 50) hx hb gX12_fill_2.2.2.2.2.2.2.1 (by decide) (Eq.refl _) (Eq.refl _) (fun c38 => ?_) (fun c38 => ?_)
        · replace hF := hF.trans (if_pos c38)
          refine lv_iconst (v := (-1)) hx hb gX12_fill_3.2.2.2.2.1 (by decide) ?_
          exact th_iret hC hH hr hlocks rfl hB.2.1 ⟨_, rfl, hB.1, hB.2.2, hR, (hF0.symm.trans (hF.trans (by rw [tk_m1])))⟩ gX12_fill_3.2.2.2.2.2
        · replace hF := hF.trans (if_neg (Int.not_le.mpr c38))
          refine lv_aload_n hx hb gX12_fill_2.2.2.2.2.2.2.2 rfl (lv_at hl 0 rfl) ?_
          refine th_getO (j := 37) (r2 := 66) hC cf_X12 hB.1 h0 ro_46 rfl rfl kf_X12_87 gX12_fill_3.1 (fun b3 mb3 hb3 => ?_)
          refine lv_iload_n hx hb gX12_fill_3.2.1 rfl (lv_at hl 1 rfl) ?_
          refine th_ialdF hC hB.1 hb3 ro_66 rfl (Eq.refl _) (by omega) (by omega) rfl gX12_fill_3.2.2.1 (fun x4 mx4 lx4 ux4 => ?_)
          replace hF := hF.trans (dv_bn (dv_aldI hB.1 hU hb3 ow_66 (z := p1.toInt) mx4 (by omega)))
          refine lv_goto (tgt := 51) hx hb gX12_fill_3.2.2.2.1 (by decide) ?_
          exact th_iret hC hH hr hlocks rfl hB.2.1 ⟨_, rfl, hB.1, hB.2.2, hR, (hF0.symm.trans hF)⟩ gX12_fill_3.2.2.2.2.2
      · replace hF := hF.trans (if_neg (not_not_intro c23))
        refine lv_aload_n hx hb gX12_fill_2.1 rfl (lv_at hl 0 rfl) ?_
        refine th_getI (j := 42) hC cf_X12 hB.1 h0 ro_46 rfl rfl kf_X12_415 gX12_fill_2.2.1 (fun x5 mx5 lx5 ux5 => ?_)
        replace hF := hF.trans (dv_bn (dv_getI h0 ro_46 (j := 42) rfl mx5 (by decide)))
        refine lv_goto (tgt := 51) hx hb gX12_fill_2.2.2.1 (by decide) ?_
        exact th_iret hC hH hr hlocks rfl hB.2.1 ⟨_, rfl, hB.1, hB.2.2, hR, (hF0.symm.trans hF)⟩ gX12_fill_3.2.2.2.2.2
    · replace hF := hF.trans (if_neg (not_not_intro c16))
      refine lv_iconst (v := (-1)) hx hb gX12_fill_1.2.2.2.1 (by decide) ?_
      exact th_iret hC hH hr hlocks rfl hB.2.1 ⟨_, rfl, hB.1, hB.2.2, hR, (hF0.symm.trans (hF.trans (by rw [tk_m1])))⟩ gX12_fill_1.2.2.2.2.1
  · replace hF := hF.trans (if_neg (Int.not_le.mpr c2))
    refine lv_iconst (v := (-1)) hx hb gX12_fill_0.2.2.2.1 (by decide) ?_
    exact th_iret hC hH hr hlocks rfl hB.2.1 ⟨_, rfl, hB.1, hB.2.2, hR, (hF0.symm.trans (hF.trans (by rw [tk_m1])))⟩ gX12_fill_0.2.2.2.2.1

set_option maxHeartbeats 4000000 in
set_option maxRecDepth 100000 in
theorem c_X12_ways (l : Launch) (G : th_G) (Γ : th_Ga) (H0 : Heap) (hI : th_I G Γ H0) (hU : dv_U Γ) (a0 : Nat) (h0 : Γ a0 = (46, 0)) (hR : th_RK a0 G Γ H0) : Met l yX12_ways (.code yX12_ways cX12_ways 1 (some FieldType.int) :: th_tb) ({ frames := 54, cells := 0, slots := 0, locals := 1697 } : Room) (th_P [.ref a0] G H0) (th_Q (fun (v : Option Value) (H1 : Heap) => ∃ r : Int32, v = some (.int r) ∧ th_I G Γ H1 ∧ th_F G Γ [(46, 41), (46, 42), (46, 43), (67, 0), (66, 0), (59, 0), (64, 0), (65, 0), (46, 39), (46, 40), (63, 0), (46, 44), (46, 45), (46, 22), (46, 24), (58, 0), (46, 23), (46, 25)] H0 H1 ∧ th_RK a0 G Γ H1 ∧ (f_X12_ways (dv G Γ H0) (a0 : Int) = (dv G Γ H1, r.toInt))) G) 0 0 (fun q => G.1.2.2 ≤ q) := by
  refine th_met RX12 (by decide) rfl (Nat.le_of_ble_eq_true rfl) ?_
  intro p e s m below meth c hC hH hr hlocks hnm ls hl
  have hx := hC.1
  have hb := hC.2.1
  have hB : th_B G Γ Γ [(46, 41), (46, 42), (46, 43), (67, 0), (66, 0), (59, 0), (64, 0), (65, 0), (46, 39), (46, 40), (63, 0), (46, 44), (46, 45), (46, 22), (46, 24), (58, 0), (46, 23), (46, 25)] H0 H0 [] := ⟨hI, va_S.rf, th_F_rf⟩
  have hl : lv_has ls 1 [(0, .ref a0)] := hl
  obtain ⟨F, hF0⟩ : ∃ F, F = f_X12_ways (dv G Γ H0) ((a0 : Int)) := ⟨_, rfl⟩
  have hF := hF0.trans (f_X12_ways.eq_1 (dv G Γ H0) ((a0 : Int)))
  refine lv_aload_n hx hb gX12_ways_0.1 rfl (lv_at hl 0 rfl) ?_
  refine lv_iconst (v := 0) hx hb gX12_ways_0.2.1 (by decide) ?_
  refine th_call (th_runV (As := [.int 0]) (rest := []) hC mf_X12_fillsNow km_X12_445 im_X12_fillsNow se_X12_fillsNow (c_X12_fillsNow l G Γ H0 hB.1 hU a0 h0 hR 0 (by decide) (by decide)) rfl rfl ⟨Nat.le_of_ble_eq_true rfl, Nat.le_of_ble_eq_true rfl⟩ hB.1 h0 ro_46 rfl rfl hl.1 rfl (Nat.le_of_ble_eq_true rfl) gX12_ways_0.2.2.1 ⟨Nat.le_refl _, Nat.le_refl _⟩) hB.2.1 (fun v2 H2 locs hp hz hS => ?_)
  obtain ⟨rfl, hI1, hf, hR, z2_0⟩ := hp
  have hB := th_B_c hB hI1 hS hf (by decide)
  have zf2 := z2_0
  rw [tk_0] at zf2
  replace hF := hF.trans (dv_bn2 (zf2))
  refine W.eq (g2 := F0 m 5 ls []) rfl ?_
  refine lv_aload_n hx hb gX12_ways_0.2.2.2.1 rfl (lv_at hl 0 rfl) ?_
  refine th_getI (j := 41) hC cf_X12 hB.1 h0 ro_46 rfl rfl kf_X12_406 gX12_ways_0.2.2.2.2.1 (fun x1 mx1 lx1 ux1 => ?_)
  replace hF := hF.trans (dv_bn (dv_getI h0 ro_46 (j := 41) rfl mx1 (by decide)))
  exact th_iret hC hH hr hlocks rfl hB.2.1 ⟨_, rfl, hB.1, hB.2.2, hR, (hF0.symm.trans hF)⟩ gX12_ways_0.2.2.2.2.2

set_option maxHeartbeats 4000000 in
set_option maxRecDepth 100000 in
theorem c_X12_cheapest (l : Launch) (G : th_G) (Γ : th_Ga) (H0 : Heap) (hI : th_I G Γ H0) (hU : dv_U Γ) (a0 : Nat) (h0 : Γ a0 = (46, 0)) (hR : th_RK a0 G Γ H0) : Met l yX12_cheapest (.code yX12_cheapest cX12_cheapest 1 (some FieldType.int) :: th_tb) ({ frames := 54, cells := 0, slots := 0, locals := 1697 } : Room) (th_P [.ref a0] G H0) (th_Q (fun (v : Option Value) (H1 : Heap) => ∃ r : Int32, v = some (.int r) ∧ th_I G Γ H1 ∧ th_F G Γ [(46, 41), (46, 42), (46, 43), (67, 0), (66, 0), (59, 0), (64, 0), (65, 0), (46, 39), (46, 40), (63, 0), (46, 44), (46, 45), (46, 22), (46, 24), (58, 0), (46, 23), (46, 25)] H0 H1 ∧ th_RK a0 G Γ H1 ∧ (f_X12_cheapest (dv G Γ H0) (a0 : Int) = (dv G Γ H1, r.toInt))) G) 0 0 (fun q => G.1.2.2 ≤ q) := by
  refine th_met RX12 (by decide) rfl (Nat.le_of_ble_eq_true rfl) ?_
  intro p e s m below meth c hC hH hr hlocks hnm ls hl
  have hx := hC.1
  have hb := hC.2.1
  have hB : th_B G Γ Γ [(46, 41), (46, 42), (46, 43), (67, 0), (66, 0), (59, 0), (64, 0), (65, 0), (46, 39), (46, 40), (63, 0), (46, 44), (46, 45), (46, 22), (46, 24), (58, 0), (46, 23), (46, 25)] H0 H0 [] := ⟨hI, va_S.rf, th_F_rf⟩
  have hl : lv_has ls 1 [(0, .ref a0)] := hl
  obtain ⟨F, hF0⟩ : ∃ F, F = f_X12_cheapest (dv G Γ H0) ((a0 : Int)) := ⟨_, rfl⟩
  have hF := hF0.trans (f_X12_cheapest.eq_1 (dv G Γ H0) ((a0 : Int)))
  refine lv_aload_n hx hb gX12_cheapest_0.1 rfl (lv_at hl 0 rfl) ?_
  refine lv_iconst (v := 0) hx hb gX12_cheapest_0.2.1 (by decide) ?_
  refine th_call (th_runV (As := [.int 0]) (rest := []) hC mf_X12_fillsNow km_X12_445 im_X12_fillsNow se_X12_fillsNow (c_X12_fillsNow l G Γ H0 hB.1 hU a0 h0 hR 0 (by decide) (by decide)) rfl rfl ⟨Nat.le_of_ble_eq_true rfl, Nat.le_of_ble_eq_true rfl⟩ hB.1 h0 ro_46 rfl rfl hl.1 rfl (Nat.le_of_ble_eq_true rfl) gX12_cheapest_0.2.2.1 ⟨Nat.le_refl _, Nat.le_refl _⟩) hB.2.1 (fun v2 H2 locs hp hz hS => ?_)
  obtain ⟨rfl, hI1, hf, hR, z2_0⟩ := hp
  have hB := th_B_c hB hI1 hS hf (by decide)
  have zf2 := z2_0
  rw [tk_0] at zf2
  replace hF := hF.trans (dv_bn2 (zf2))
  refine W.eq (g2 := F0 m 5 ls []) rfl ?_
  refine lv_aload_n hx hb gX12_cheapest_0.2.2.2.1 rfl (lv_at hl 0 rfl) ?_
  refine th_getI (j := 41) hC cf_X12 hB.1 h0 ro_46 rfl rfl kf_X12_406 gX12_cheapest_0.2.2.2.2.1 (fun x1 mx1 lx1 ux1 => ?_)
  replace hF := hF.trans (dv_bn (dv_getI h0 ro_46 (j := 41) rfl mx1 (by decide)))
  refine tr_if_ne (tgt := 16) hx hb gX12_cheapest_0.2.2.2.2.2.1 (by decide) (Eq.refl _) (fun c9 => ?_) (fun c9 => ?_)
  · replace hF := hF.trans (if_pos c9)
    refine lv_aload_n hx hb gX12_cheapest_1.1 rfl (lv_at hl 0 rfl) ?_
    refine th_getI (j := 43) hC cf_X12 hB.1 h0 ro_46 rfl rfl kf_X12_409 gX12_cheapest_1.2.1 (fun x2 mx2 lx2 ux2 => ?_)
    replace hF := hF.trans (dv_bn (dv_getI h0 ro_46 (j := 43) rfl mx2 (by decide)))
    exact th_iret hC hH hr hlocks rfl hB.2.1 ⟨_, rfl, hB.1, hB.2.2, hR, (hF0.symm.trans hF)⟩ gX12_cheapest_1.2.2
  · replace hF := hF.trans (if_neg (not_not_intro c9))
    refine lv_iconst (v := (-1)) hx hb gX12_cheapest_0.2.2.2.2.2.2.1 (by decide) ?_
    refine lv_goto (tgt := 20) hx hb gX12_cheapest_0.2.2.2.2.2.2.2 (by decide) ?_
    exact th_iret hC hH hr hlocks rfl hB.2.1 ⟨_, rfl, hB.1, hB.2.2, hR, (hF0.symm.trans (hF.trans (by rw [tk_m1])))⟩ gX12_cheapest_1.2.2

set_option maxHeartbeats 4000000 in
set_option maxRecDepth 100000 in
theorem c_X12_canFill (l : Launch) (G : th_G) (Γ : th_Ga) (H0 : Heap) (hI : th_I G Γ H0) (hR : th_RC G Γ H0) (hU : dv_U Γ) (a0 : Nat) (h0 : Γ a0 = (46, 0)) (p1 : Int32) (p2 : Int32) (f2 : 0 ≤ p2.toInt) (g2 : p2.toInt ≤ 12) (p3 : Int32) (f3 : 0 ≤ p3.toInt) (g3 : p3.toInt ≤ 12) : Met l yX12_canFill (.code yX12_canFill cX12_canFill 5 (some FieldType.boolean) :: th_tb) ({ frames := 17, cells := 0, slots := 0, locals := 436 } : Room) (th_P [.ref a0, .int p1, .int p2, .int p3] G H0) (th_Q (fun (v : Option Value) (H1 : Heap) => ∃ r : Int32, v = some (.int r) ∧ 0 ≤ r.toInt ∧ r.toInt ≤ 1 ∧ th_I G Γ H1 ∧ th_F G Γ [(46, 41), (46, 42), (46, 43), (67, 0), (66, 0), (59, 0), (64, 0), (65, 0), (46, 39), (46, 40)] H0 H1 ∧ th_RC G Γ H1 ∧ (f_X12_canFill (dv G Γ H0) (a0 : Int) p1.toInt p2.toInt p3.toInt = (dv G Γ H1, r.toInt))) G) 0 0 (fun q => G.1.2.2 ≤ q) := by
  refine th_met RX12 (by decide) rfl (Nat.le_of_ble_eq_true rfl) ?_
  intro p e s m below meth c hC hH hr hlocks hnm ls hl
  have hx := hC.1
  have hb := hC.2.1
  have hB : th_B G Γ Γ [(46, 41), (46, 42), (46, 43), (67, 0), (66, 0), (59, 0), (64, 0), (65, 0), (46, 39), (46, 40)] H0 H0 [] := ⟨hI, va_S.rf, th_F_rf⟩
  have hl : lv_has ls 5 [(0, .ref a0), (1, .int p1), (2, .int p2), (3, .int p3)] := hl
  have lp1 := ti_lo p1; have up1 := ti_hi p1
  have lp2 := ti_lo p2; have up2 := ti_hi p2
  have lp3 := ti_lo p3; have up3 := ti_hi p3
  obtain ⟨F, hF0⟩ : ∃ F, F = f_X12_canFill (dv G Γ H0) ((a0 : Int)) (p1.toInt) (p2.toInt) (p3.toInt) := ⟨_, rfl⟩
  have hF := hF0.trans (f_X12_canFill.eq_1 (dv G Γ H0) ((a0 : Int)) (p1.toInt) (p2.toInt) (p3.toInt))
  refine lv_iconst (v := 0) hx hb gX12_canFill_0.1 (by decide) ?_
  refine lv_istore (lv' := [(4, .int 0), (0, .ref a0), (1, .int p1), (2, .int p2), (3, .int p3)]) hx hb gX12_canFill_0.2.1 hl (by decide) rfl (fun ls hl => ?_)
  have lp3 : ∀ (n3 : Nat) (H3 : Heap) (locs : List Loc) (ls : Array Slot) (j3_4 : Int32), th_B G Γ Γ [(46, 41), (46, 42), (46, 43), (67, 0), (66, 0), (59, 0), (64, 0), (65, 0), (46, 39), (46, 40)] H0 H3 locs → th_RC G Γ H3 → lv_has ls 5 [(0, .ref a0), (1, .int p1), (2, .int p2), (3, .int p3), (4, .int j3_4)] → F = dv_lp f_X12_canFill_3b (dv G Γ H3, (a0 : Int), p1.toInt, p2.toInt, p3.toInt, j3_4.toInt) → 0 ≤ j3_4.toInt → j3_4.toInt ≤ 12 → (2147483648 : Int) - j3_4.toInt ≤ (n3 : Int) → W p l e ({ frames := 17, cells := 0, slots := 0, locals := 436 } : Room) s m ([.ref a0, .int p1, .int p2, .int p3] : List Value).toArray below meth c H3 locs 0 0 (MQ below (th_Q (fun (v : Option Value) (H1 : Heap) => ∃ r : Int32, v = some (.int r) ∧ 0 ≤ r.toInt ∧ r.toInt ≤ 1 ∧ th_I G Γ H1 ∧ th_F G Γ [(46, 41), (46, 42), (46, 43), (67, 0), (66, 0), (59, 0), (64, 0), (65, 0), (46, 39), (46, 40)] H0 H1 ∧ th_RC G Γ H1 ∧ (f_X12_canFill (dv G Γ H0) (a0 : Int) p1.toInt p2.toInt p3.toInt = (dv G Γ H1, r.toInt))) G) ([.ref a0, .int p1, .int p2, .int p3] : List Value).toArray s 0 0 (fun q => G.1.2.2 ≤ q)) (F0 m 3 ls []) := by
    intro n3
    induction n3 with
    | zero => intro H3 locs ls j3_4 hB hR hl hF g3_0 g3_1 hm3; exact absurd hm3 (by have := ti_hi j3_4; omega)
    | succ n3 ih3 =>
      intro H3 locs ls j3_4 hB hR hl hF g3_0 g3_1 hm3
      have lj3_4 := ti_lo j3_4; have uj3_4 := ti_hi j3_4
      have hm3 : (2147483648 : Int) - j3_4.toInt ≤ (n3 : Int) + 1 := by omega
      replace hF := hF.trans (dv_lp_eq)
      replace hF := hF.trans (congrArg (dv_k f_X12_canFill_3b) (f_X12_canFill_3c.eq_1 (dv G Γ H3) ((a0 : Int)) (p1.toInt) (p2.toInt) (p3.toInt) (j3_4.toInt)))
      refine lv_iload hx hb gX12_canFill_0.2.2.1 (lv_at hl 4 rfl) ?_
      refine lv_bipush (v := 12) hx hb gX12_canFill_0.2.2.2.1 (by decide) ?_
      refine tr_icmp_ge (tgt := 24) hx hb gX12_canFill_0.2.2.2.2.1 (by decide) (Eq.refl _) tk_12 (fun c7 => ?_) (fun c7 => ?_)
      · replace hF := hF.trans (congrArg (dv_k f_X12_canFill_3b) (if_pos c7))
        refine lv_aload_n hx hb gX12_canFill_1.2.2.2.2.1 rfl (lv_at hl 0 rfl) ?_
        refine lv_iload_n hx hb gX12_canFill_1.2.2.2.2.2.1 rfl (lv_at hl 1 rfl) ?_
        refine lv_iload_n hx hb gX12_canFill_1.2.2.2.2.2.2.1 rfl (lv_at hl 2 rfl) ?_
        refine lv_iload_n hx hb gX12_canFill_1.2.2.2.2.2.2.2 rfl (lv_at hl 3 rfl) ?_
        refine th_call (th_runV (As := [.int p1, .int p2, .int p3]) (rest := []) hC mf_X12_goesThrough km_X12_442 im_X12_goesThrough se_X12_goesThrough (c_X12_goesThrough l G Γ H3 hB.1 hR hU a0 h0 p1 p2 (by omega) (by omega) p3 (by omega) (by omega)) rfl rfl ⟨Nat.le_of_ble_eq_true rfl, Nat.le_of_ble_eq_true rfl⟩ hB.1 h0 ro_46 rfl rfl hl.1 rfl (Nat.le_of_ble_eq_true rfl) gX12_canFill_2.1 ⟨Nat.le_refl _, Nat.le_refl _⟩) hB.2.1 (fun v28 H28 locs hp hz hS => ?_)
        obtain ⟨rfl, hI1, hf, hR, z28_0⟩ := hp
        have hB := th_B_c hB hI1 hS hf (by decide)
        replace hF := hF.trans (congrArg (dv_k f_X12_canFill_3b) (dv_bn2 (z28_0)))
        refine W.eq (g2 := F0 m 31 ls []) rfl ?_
        refine lv_aload_n hx hb gX12_canFill_2.2.1 rfl (lv_at hl 0 rfl) ?_
        refine th_getI (j := 41) hC cf_X12 hB.1 h0 ro_46 rfl rfl kf_X12_406 gX12_canFill_2.2.2.1 (fun x1 mx1 lx1 ux1 => ?_)
        replace hF := hF.trans (congrArg (dv_k f_X12_canFill_3b) (dv_bn (dv_getI h0 ro_46 (j := 41) rfl mx1 (by decide))))
        refine tr_if_le (tgt := 42) hx hb gX12_canFill_2.2.2.2.1 (by decide) (Eq.refl _) (fun c35 => ?_) (fun c35 => ?_)
        · replace hF := hF.trans (congrArg (dv_k f_X12_canFill_3b) (if_pos c35))
          refine lv_iconst (v := 0) hx hb gX12_canFill_2.2.2.2.2.2.2.1 (by decide) ?_
          replace hF := hF.trans (dv_kr)
          exact th_iret hC hH hr hlocks narrow_b0 hB.2.1 ⟨_, rfl, by decide, by decide, hB.1, hB.2.2, hR, (hF0.symm.trans (hF.trans (by rw [tk_0])))⟩ gX12_canFill_2.2.2.2.2.2.2.2
        · replace hF := hF.trans (congrArg (dv_k f_X12_canFill_3b) (if_neg (Int.not_le.mpr c35)))
          refine lv_iconst (v := 1) hx hb gX12_canFill_2.2.2.2.2.1 (by decide) ?_
          refine lv_goto (tgt := 43) hx hb gX12_canFill_2.2.2.2.2.2.1 (by decide) ?_
          replace hF := hF.trans (dv_kr)
          exact th_iret hC hH hr hlocks narrow_b1 hB.2.1 ⟨_, rfl, by decide, by decide, hB.1, hB.2.2, hR, (hF0.symm.trans (hF.trans (by rw [tk_1])))⟩ gX12_canFill_2.2.2.2.2.2.2.2
      · replace hF := hF.trans (congrArg (dv_k f_X12_canFill_3b) (if_neg (Int.not_le.mpr c7)))
        refine lv_aload_n hx hb gX12_canFill_0.2.2.2.2.2.1 rfl (lv_at hl 0 rfl) ?_
        refine th_getO (j := 29) (r2 := 59) hC cf_X12 hB.1 h0 ro_46 rfl rfl kf_X12_66 gX12_canFill_0.2.2.2.2.2.2.1 (fun b2 mb2 hb2 => ?_)
        have sb2 := (th_F_o hB.2.2 h0 ro_46 (j := 29) (by decide) (by decide)).symm.trans mb2
        refine lv_iload hx hb gX12_canFill_0.2.2.2.2.2.2.2 (lv_at hl 4 rfl) ?_
        refine lv_iconst (v := 0) hx hb gX12_canFill_1.1 (by decide) ?_
        have hIo := hB.1
        refine th_iastF hC hB hb2 (Or.inl hb2) ro_59 rfl (by decide) (Eq.refl _) (by omega) (by omega) th_sIa gX12_canFill_1.2.1 (fun H17 locs hB hf17 hst17 => ?_)
        have hf := hf17
        have mm3 := (th_F_o hf h0 ro_46 (j := 29) (by decide) (by decide)).trans mb2
        have hR := th_RC_F hB.1 hR hf (th_T_s hb2 ro_59 hst17) (by decide)
        replace hF := hF.trans (congrArg (dv_k f_X12_canFill_3b) (dv_bn (dv_stoI hIo hB.1 hU hb2 ow_59 (i := j3_4.toInt) hst17 tk_0 (by omega))))
        refine tr_iinc (fun x4 => [(4, .int x4), (0, .ref a0), (1, .int p1), (2, .int p2), (3, .int p3)]) hx hb gX12_canFill_1.2.2.1 hl (k := 4) rfl (Eq.refl _) tk_1 (by omega) (by omega) (by decide) (fun _ => rfl) (fun x4 ls ex4 hl => ?_)
        replace hF := hF.trans (congrArg (dv_k f_X12_canFill_3b) (dv_bn (ex4.symm)))
        refine lv_goto (tgt := 3) hx hb gX12_canFill_1.2.2.2.1 (by decide) ?_
        replace hF := hF.trans (dv_kl)
        exact ih3 H17 locs ls x4 hB hR (lv_sub hl [1, 2, 3, 4, 0] rfl) hF (by omega) (by omega) (by omega)
  exact lp3 ((2147483648 : Int) - (0)).toNat H0 [] ls 0 hB hR (lv_sub hl [1, 2, 3, 4, 0] rfl) (by rw [tk_0]; exact hF) (by decide) (by decide) (by have w0 := tk_0; omega)

set_option maxHeartbeats 4000000 in
set_option maxRecDepth 100000 in
theorem c_X12_halls (l : Launch) (G : th_G) (Γ : th_Ga) (H0 : Heap) (hI : th_I G Γ H0) (hU : dv_U Γ) (a0 : Nat) (h0 : Γ a0 = (46, 0)) (hR : th_RK a0 G Γ H0) (p1 : Int32) : Met l yX12_halls (.code yX12_halls cX12_halls 7 (some FieldType.int) :: th_tb) ({ frames := 53, cells := 0, slots := 0, locals := 1675 } : Room) (th_P [.ref a0, .int p1] G H0) (th_Q (fun (v : Option Value) (H1 : Heap) => ∃ r : Int32, v = some (.int r) ∧ th_I G Γ H1 ∧ th_F G Γ [(46, 41), (46, 42), (46, 43), (67, 0), (66, 0), (59, 0), (64, 0), (65, 0), (46, 39), (46, 40), (63, 0), (46, 44), (46, 45), (46, 22), (46, 24), (58, 0), (46, 23), (46, 25)] H0 H1 ∧ th_RK a0 G Γ H1 ∧ (f_X12_halls (dv G Γ H0) (a0 : Int) p1.toInt = (dv G Γ H1, r.toInt))) G) 0 0 (fun q => G.1.2.2 ≤ q) := by
  refine th_met RX12 (by decide) rfl (Nat.le_of_ble_eq_true rfl) ?_
  intro p e s m below meth c hC hH hr hlocks hnm ls hl
  have hx := hC.1
  have hb := hC.2.1
  have hB : th_B G Γ Γ [(46, 41), (46, 42), (46, 43), (67, 0), (66, 0), (59, 0), (64, 0), (65, 0), (46, 39), (46, 40), (63, 0), (46, 44), (46, 45), (46, 22), (46, 24), (58, 0), (46, 23), (46, 25)] H0 H0 [] := ⟨hI, va_S.rf, th_F_rf⟩
  have hl : lv_has ls 7 [(0, .ref a0), (1, .int p1)] := hl
  have lp1 := ti_lo p1; have up1 := ti_hi p1
  obtain ⟨F, hF0⟩ : ∃ F, F = f_X12_halls (dv G Γ H0) ((a0 : Int)) (p1.toInt) := ⟨_, rfl⟩
  have hF := hF0.trans (f_X12_halls.eq_1 (dv G Γ H0) ((a0 : Int)) (p1.toInt))
  refine lv_iload_n hx hb gX12_halls_0.1 rfl (lv_at hl 1 rfl) ?_
  refine lv_iconst (v := (-1)) hx hb gX12_halls_0.2.1 (by decide) ?_
  refine tr_icmp_ge (tgt := 7) hx hb gX12_halls_0.2.2.1 (by decide) (Eq.refl _) tk_m1 (fun c2 => ?_) (fun c2 => ?_)
  · replace hF := hF.trans (if_pos c2)
    refine lv_iconst (v := 0) hx hb gX12_halls_0.2.2.2.2.2.1 (by decide) ?_
    refine lv_istore_n (lv' := [(2, .int 0), (0, .ref a0), (1, .int p1)]) hx hb gX12_halls_0.2.2.2.2.2.2.1 rfl hl (by decide) rfl (fun ls hl => ?_)
    refine lv_iconst (v := 0) hx hb gX12_halls_0.2.2.2.2.2.2.2 (by decide) ?_
    refine lv_istore_n (lv' := [(3, .int 0), (2, .int 0), (0, .ref a0), (1, .int p1)]) hx hb gX12_halls_1.1 rfl hl (by decide) rfl (fun ls hl => ?_)
    refine lv_iconst (v := 0) hx hb gX12_halls_1.2.1 (by decide) ?_
    refine lv_istore (lv' := [(4, .int 0), (3, .int 0), (2, .int 0), (0, .ref a0), (1, .int p1)]) hx hb gX12_halls_1.2.2.1 hl (by decide) rfl (fun ls hl => ?_)
    have lp14 : ∀ (n14 : Nat) (locs : List Loc) (ls : Array Slot) (j14_2 : Int32) (j14_3 : Int32) (j14_4 : Int32), th_B G Γ Γ [(46, 41), (46, 42), (46, 43), (67, 0), (66, 0), (59, 0), (64, 0), (65, 0), (46, 39), (46, 40), (63, 0), (46, 44), (46, 45), (46, 22), (46, 24), (58, 0), (46, 23), (46, 25)] H0 H0 locs → lv_has ls 7 [(0, .ref a0), (1, .int p1), (2, .int j14_2), (3, .int j14_3), (4, .int j14_4)] → F = dv_lp f_X12_halls_14b (dv G Γ H0, (a0 : Int), p1.toInt, j14_2.toInt, j14_3.toInt, j14_4.toInt) → 0 ≤ j14_3.toInt → j14_3.toInt ≤ 1296 → 0 ≤ j14_4.toInt → j14_4.toInt ≤ 9 → j14_3.toInt ≤ 144 * j14_4.toInt → (2147483648 : Int) - j14_4.toInt ≤ (n14 : Int) → W p l e ({ frames := 53, cells := 0, slots := 0, locals := 1675 } : Room) s m ([.ref a0, .int p1] : List Value).toArray below meth c H0 locs 0 0 (MQ below (th_Q (fun (v : Option Value) (H1 : Heap) => ∃ r : Int32, v = some (.int r) ∧ th_I G Γ H1 ∧ th_F G Γ [(46, 41), (46, 42), (46, 43), (67, 0), (66, 0), (59, 0), (64, 0), (65, 0), (46, 39), (46, 40), (63, 0), (46, 44), (46, 45), (46, 22), (46, 24), (58, 0), (46, 23), (46, 25)] H0 H1 ∧ th_RK a0 G Γ H1 ∧ (f_X12_halls (dv G Γ H0) (a0 : Int) p1.toInt = (dv G Γ H1, r.toInt))) G) ([.ref a0, .int p1] : List Value).toArray s 0 0 (fun q => G.1.2.2 ≤ q)) (F0 m 14 ls []) := by
      intro n14
      induction n14 with
      | zero => intro locs ls j14_2 j14_3 j14_4 hB hl hF g14_0 g14_1 g14_2 g14_3 g14_4 hm14; exact absurd hm14 (by have := ti_hi j14_4; omega)
      | succ n14 ih14 =>
        intro locs ls j14_2 j14_3 j14_4 hB hl hF g14_0 g14_1 g14_2 g14_3 g14_4 hm14
        have lj14_2 := ti_lo j14_2; have uj14_2 := ti_hi j14_2
        have lj14_3 := ti_lo j14_3; have uj14_3 := ti_hi j14_3
        have lj14_4 := ti_lo j14_4; have uj14_4 := ti_hi j14_4
        have hm14 : (2147483648 : Int) - j14_4.toInt ≤ (n14 : Int) + 1 := by omega
        replace hF := hF.trans (dv_lp_eq)
        replace hF := hF.trans (congrArg (dv_k f_X12_halls_14b) (f_X12_halls_14c.eq_1 (dv G Γ H0) ((a0 : Int)) (p1.toInt) (j14_2.toInt) (j14_3.toInt) (j14_4.toInt)))
        refine lv_iload hx hb gX12_halls_1.2.2.2.1 (lv_at hl 4 rfl) ?_
        refine lv_aload_n hx hb gX12_halls_1.2.2.2.2.1 rfl (lv_at hl 0 rfl) ?_
        refine th_call (th_runV (As := []) (rest := [.int j14_4]) hC mf_X12_many km_X12_115 im_X12_many se_X12_many (c_X12_many l G Γ H0 hB.1 hU a0 h0) rfl rfl ⟨Nat.le_of_ble_eq_true rfl, Nat.le_of_ble_eq_true rfl⟩ hB.1 h0 ro_46 rfl rfl hl.1 rfl (Nat.le_of_ble_eq_true rfl) gX12_halls_1.2.2.2.2.2.1 ⟨Nat.le_refl _, Nat.le_refl _⟩) hB.2.1 (fun v17 H17 locs hp hz hS => ?_)
        obtain ⟨x1, rfl, lx1, ux1, q17_0, q17_1, rfl⟩ := hp
        have hB := th_B_s hB hS
        replace hF := hF.trans (congrArg (dv_k f_X12_halls_14b) (dv_bn2 (q17_1)))
        refine W.eq (g2 := F0 m 20 ls [.int x1, .int j14_4]) rfl ?_
        refine tr_icmp_ge (tgt := 72) hx hb gX12_halls_1.2.2.2.2.2.2.1 (by decide) (Eq.refl _) (Eq.refl _) (fun c20 => ?_) (fun c20 => ?_)
        · replace hF := hF.trans (congrArg (dv_k f_X12_halls_14b) (if_pos c20))
          refine lv_aload_n hx hb gX12_halls_5.2.2.2.2.1 rfl (lv_at hl 0 rfl) ?_
          refine lv_iload_n hx hb gX12_halls_5.2.2.2.2.2.1 rfl (lv_at hl 2 rfl) ?_
          refine th_call (th_runV (As := [.int j14_2]) (rest := []) hC mf_X12_laysPrices km_X12_439 im_X12_laysPrices se_X12_laysPrices (c_X12_laysPrices l G Γ H0 hB.1 hU a0 h0 (th_KE hR) j14_2) rfl rfl ⟨Nat.le_of_ble_eq_true rfl, Nat.le_of_ble_eq_true rfl⟩ hB.1 h0 ro_46 rfl rfl hl.1 rfl (Nat.le_of_ble_eq_true rfl) gX12_halls_5.2.2.2.2.2.2.1 ⟨Nat.le_refl _, Nat.le_refl _⟩) hB.2.1 (fun v74 H74 locs hp hz hS => ?_)
          have hRD := hR
          obtain ⟨rfl, hI1, hf, hR, z74_0⟩ := hp
          have hR := th_RK_c hR.1 hRD hI1 h0 hf (by decide)
          have hB := th_B_c hB hI1 hS hf (by decide)
          replace hF := hF.trans (congrArg (dv_k f_X12_halls_14b) (dv_bn2 (z74_0)))
          refine W.eq (g2 := F0 m 77 ls []) rfl ?_
          refine lv_aload_n hx hb gX12_halls_5.2.2.2.2.2.2.2 rfl (lv_at hl 0 rfl) ?_
          refine lv_iconst (v := 0) hx hb gX12_halls_6.1 (by decide) ?_
          refine th_put hC cf_X12 hB h0 (Or.inl h0) ro_46 rfl (j := 44) rfl (th_sI (by decide) (by decide)) (by decide) rfl narrow_b0 rfl kf_X12_400 gX12_halls_6.2.1 (fun H79 locs hB hf hst79 => ?_)
          have hR := th_RK_F hB.1 hR h0 hf (th_T_s h0 ro_46 hst79) (by decide)
          replace hF := hF.trans (congrArg (dv_k f_X12_halls_14b) (dv_bn (dv_putI hB.1 h0 ro_46 (j := 44) rfl (th_apart hC cf_X12) hst79 tk_0 (by decide))))
          refine lv_aload_n hx hb gX12_halls_6.2.2.1 rfl (lv_at hl 0 rfl) ?_
          refine lv_iconst (v := 1) hx hb gX12_halls_6.2.2.2.1 (by decide) ?_
          refine th_put hC cf_X12 hB h0 (Or.inl h0) ro_46 rfl (j := 45) rfl (th_sI (by decide) (by decide)) (by decide) rfl narrow_b1 rfl kf_X12_418 gX12_halls_6.2.2.2.2.1 (fun H84 locs hB hf hst84 => ?_)
          have hR := th_RK_F hB.1 hR h0 hf (th_T_s h0 ro_46 hst84) (by decide)
          replace hF := hF.trans (congrArg (dv_k f_X12_halls_14b) (dv_bn (dv_putI hB.1 h0 ro_46 (j := 45) rfl (th_apart hC cf_X12) hst84 tk_1 (by decide))))
          refine lv_iconst (v := 0) hx hb gX12_halls_6.2.2.2.2.2.1 (by decide) ?_
          refine lv_istore (lv' := [(4, .int 0), (0, .ref a0), (1, .int p1), (2, .int j14_2), (3, .int j14_3)]) hx hb gX12_halls_6.2.2.2.2.2.2.1 hl (by decide) rfl (fun ls hl => ?_)
          refine lv_iconst (v := 1) hx hb gX12_halls_6.2.2.2.2.2.2.2 (by decide) ?_
          refine lv_istore (lv' := [(5, .int 1), (4, .int 0), (0, .ref a0), (1, .int p1), (2, .int j14_2), (3, .int j14_3)]) hx hb gX12_halls_7.1 hl (by decide) rfl (fun ls hl => ?_)
          have lp93 : ∀ (n93 : Nat) (H93 : Heap) (locs : List Loc) (ls : Array Slot) (j93_4 : Int32) (j93_5 : Int32), th_B G Γ Γ [(46, 41), (46, 42), (46, 43), (67, 0), (66, 0), (59, 0), (64, 0), (65, 0), (46, 39), (46, 40), (63, 0), (46, 44), (46, 45), (46, 22), (46, 24), (58, 0), (46, 23), (46, 25)] H0 H93 locs → th_RK a0 G Γ H93 → lv_has ls 7 [(0, .ref a0), (1, .int p1), (2, .int j14_2), (3, .int j14_3), (4, .int j93_4), (5, .int j93_5)] → F = dv_k f_X12_halls_14b (dv_lp f_X12_halls_93b (dv G Γ H93, (a0 : Int), p1.toInt, j14_2.toInt, j14_3.toInt, j93_4.toInt, j93_5.toInt)) → 1 ≤ j93_5.toInt → j93_5.toInt ≤ 13 → (2147483648 : Int) - j93_5.toInt ≤ (n93 : Int) → W p l e ({ frames := 53, cells := 0, slots := 0, locals := 1675 } : Room) s m ([.ref a0, .int p1] : List Value).toArray below meth c H93 locs 0 0 (MQ below (th_Q (fun (v : Option Value) (H1 : Heap) => ∃ r : Int32, v = some (.int r) ∧ th_I G Γ H1 ∧ th_F G Γ [(46, 41), (46, 42), (46, 43), (67, 0), (66, 0), (59, 0), (64, 0), (65, 0), (46, 39), (46, 40), (63, 0), (46, 44), (46, 45), (46, 22), (46, 24), (58, 0), (46, 23), (46, 25)] H0 H1 ∧ th_RK a0 G Γ H1 ∧ (f_X12_halls (dv G Γ H0) (a0 : Int) p1.toInt = (dv G Γ H1, r.toInt))) G) ([.ref a0, .int p1] : List Value).toArray s 0 0 (fun q => G.1.2.2 ≤ q)) (F0 m 93 ls []) := by
            intro n93
            induction n93 with
            | zero => intro H93 locs ls j93_4 j93_5 hB hR hl hF g93_0 g93_1 hm93; exact absurd hm93 (by have := ti_hi j93_5; omega)
            | succ n93 ih93 =>
              intro H93 locs ls j93_4 j93_5 hB hR hl hF g93_0 g93_1 hm93
              have lj93_4 := ti_lo j93_4; have uj93_4 := ti_hi j93_4
              have lj93_5 := ti_lo j93_5; have uj93_5 := ti_hi j93_5
              have hm93 : (2147483648 : Int) - j93_5.toInt ≤ (n93 : Int) + 1 := by omega
              replace hF := hF.trans (congrArg (dv_k f_X12_halls_14b) (dv_lp_eq))
              replace hF := hF.trans (congrArg (dv_k f_X12_halls_14b) (congrArg (dv_k f_X12_halls_93b) (f_X12_halls_93c.eq_1 (dv G Γ H93) ((a0 : Int)) (p1.toInt) (j14_2.toInt) (j14_3.toInt) (j93_4.toInt) (j93_5.toInt))))
              refine lv_iload hx hb gX12_halls_7.2.1 (lv_at hl 5 rfl) ?_
              refine lv_bipush (v := 12) hx hb gX12_halls_7.2.2.1 (by decide) ?_
              refine tr_icmp_gt (tgt := 162) hx hb gX12_halls_7.2.2.2.1 (by decide) (Eq.refl _) tk_12 (fun c97 => ?_) (fun c97 => ?_)
              · replace hF := hF.trans (congrArg (dv_k f_X12_halls_14b) (congrArg (dv_k f_X12_halls_93b) (if_pos c97)))
                refine lv_iload_n hx hb gX12_halls_11.2.2.2.1 rfl (lv_at hl 1 rfl) ?_
                refine lv_iconst (v := (-1)) hx hb gX12_halls_11.2.2.2.2.1 (by decide) ?_
                refine tr_icmp_ne (tgt := 172) hx hb gX12_halls_11.2.2.2.2.2.1 (by decide) (Eq.refl _) tk_m1 (fun c164 => ?_) (fun c164 => ?_)
                · replace hF := hF.trans (congrArg (dv_k f_X12_halls_14b) (congrArg (dv_k f_X12_halls_93b) (if_pos c164)))
                  refine lv_iconst (v := (-1)) hx hb gX12_halls_12.1 (by decide) ?_
                  replace hF := hF.trans (congrArg (dv_k f_X12_halls_14b) (dv_kr))
                  replace hF := hF.trans (dv_kr)
                  exact th_iret hC hH hr hlocks rfl hB.2.1 ⟨_, rfl, hB.1, hB.2.2, hR, (hF0.symm.trans (hF.trans (by rw [tk_m1])))⟩ gX12_halls_12.2
                · replace hF := hF.trans (congrArg (dv_k f_X12_halls_14b) (congrArg (dv_k f_X12_halls_93b) (if_neg (not_not_intro c164))))
                  refine lv_iload hx hb gX12_halls_11.2.2.2.2.2.2.1 (lv_at hl 4 rfl) ?_
                  refine lv_goto (tgt := 173) hx hb gX12_halls_11.2.2.2.2.2.2.2 (by decide) ?_
                  replace hF := hF.trans (congrArg (dv_k f_X12_halls_14b) (dv_kr))
                  replace hF := hF.trans (dv_kr)
                  exact th_iret hC hH hr hlocks rfl hB.2.1 ⟨_, rfl, hB.1, hB.2.2, hR, (hF0.symm.trans hF)⟩ gX12_halls_12.2
              · replace hF := hF.trans (congrArg (dv_k f_X12_halls_14b) (congrArg (dv_k f_X12_halls_93b) (if_neg (Int.not_lt.mpr c97))))
                refine lv_iload_n hx hb gX12_halls_7.2.2.2.2.1 rfl (lv_at hl 3 rfl) ?_
                refine lv_iload hx hb gX12_halls_7.2.2.2.2.2.1 (lv_at hl 5 rfl) ?_
                refine tr_idiv hx hb gX12_halls_7.2.2.2.2.2.2.1 (Eq.refl _) (Eq.refl _) (by omega) (by omega) (fun x2 ex2 => ?_)
                have fx2 := ti_divb (a := j14_3.toInt) (b := j93_5.toInt) (by omega) (by omega)
                rw [← ex2] at fx2
                replace hF := hF.trans (congrArg (dv_k f_X12_halls_14b) (congrArg (dv_k f_X12_halls_93b) (dv_bn (ex2.symm))))
                refine lv_istore (lv' := [(6, .int x2), (0, .ref a0), (1, .int p1), (2, .int j14_2), (3, .int j14_3), (4, .int j93_4), (5, .int j93_5)]) hx hb gX12_halls_7.2.2.2.2.2.2.2 hl (by decide) rfl (fun ls hl => ?_)
                refine lv_iload_n hx hb gX12_halls_8.1 rfl (lv_at hl 4 rfl) ?_
                refine lv_iload hx hb gX12_halls_8.2.1 (lv_at hl 6 rfl) ?_
                refine lv_iload hx hb gX12_halls_8.2.2.1 (lv_at hl 0 rfl) ?_
                have q4 := ti_mulr (a := j93_5.toInt) (b := x2.toInt) (A := 12) (B := 1296) (by omega) (by omega) (by omega) (by omega)
                generalize hex3 : j93_5.toInt * x2.toInt = wx3 at q4
                refine tr_imul hx hb gX12_halls_8.2.2.2.1 (Eq.refl _) (Eq.refl _) (by rw [hex3]; omega) (by rw [hex3]; omega) (fun x3 ex3 => ?_)
                rw [hex3] at ex3
                replace hF := hF.trans (congrArg (dv_k f_X12_halls_14b) (congrArg (dv_k f_X12_halls_93b) (dv_bn (hex3.trans ex3.symm))))
                have jn156 : ∀ (H156 : Heap) (locs : List Loc) (ls : Array Slot) (j156_4 : Int32), th_B G Γ Γ [(46, 41), (46, 42), (46, 43), (67, 0), (66, 0), (59, 0), (64, 0), (65, 0), (46, 39), (46, 40), (63, 0), (46, 44), (46, 45), (46, 22), (46, 24), (58, 0), (46, 23), (46, 25)] H0 H156 locs → th_RK a0 G Γ H156 → lv_has ls 7 [(0, .ref a0), (1, .int p1), (2, .int j14_2), (3, .int j14_3), (5, .int j93_5), (4, .int j156_4)] → F = dv_k f_X12_halls_14b (dv_k f_X12_halls_93b (f_X12_halls_156 (dv G Γ H156) ((a0 : Int)) (p1.toInt) (j14_2.toInt) (j14_3.toInt) (j93_5.toInt) (j156_4.toInt))) → W p l e ({ frames := 53, cells := 0, slots := 0, locals := 1675 } : Room) s m ([.ref a0, .int p1] : List Value).toArray below meth c H156 locs 0 0 (MQ below (th_Q (fun (v : Option Value) (H1 : Heap) => ∃ r : Int32, v = some (.int r) ∧ th_I G Γ H1 ∧ th_F G Γ [(46, 41), (46, 42), (46, 43), (67, 0), (66, 0), (59, 0), (64, 0), (65, 0), (46, 39), (46, 40), (63, 0), (46, 44), (46, 45), (46, 22), (46, 24), (58, 0), (46, 23), (46, 25)] H0 H1 ∧ th_RK a0 G Γ H1 ∧ (f_X12_halls (dv G Γ H0) (a0 : Int) p1.toInt = (dv G Γ H1, r.toInt))) G) ([.ref a0, .int p1] : List Value).toArray s 0 0 (fun q => G.1.2.2 ≤ q)) (F0 m 156 ls []) := by
                  intro H156 locs ls j156_4 hB hR hl hF
                  have lj156_4 := ti_lo j156_4; have uj156_4 := ti_hi j156_4
                  replace hF := hF.trans (congrArg (dv_k f_X12_halls_14b) (congrArg (dv_k f_X12_halls_93b) (f_X12_halls_156.eq_1 (dv G Γ H156) ((a0 : Int)) (p1.toInt) (j14_2.toInt) (j14_3.toInt) (j93_5.toInt) (j156_4.toInt))))
                  refine tr_iinc (fun x5 => [(5, .int x5), (0, .ref a0), (1, .int p1), (2, .int j14_2), (3, .int j14_3), (4, .int j156_4)]) hx hb gX12_halls_11.2.1 hl (k := 4) rfl (Eq.refl _) tk_1 (by omega) (by omega) (by decide) (fun _ => rfl) (fun x5 ls ex5 hl => ?_)
                  replace hF := hF.trans (congrArg (dv_k f_X12_halls_14b) (congrArg (dv_k f_X12_halls_93b) (dv_bn (ex5.symm))))
                  refine lv_goto (tgt := 93) hx hb gX12_halls_11.2.2.1 (by decide) ?_
                  replace hF := hF.trans (congrArg (dv_k f_X12_halls_14b) (dv_kl))
                  exact ih93 H156 locs ls j156_4 x5 hB hR (lv_sub hl [1, 2, 3, 4, 5, 0] rfl) hF (by omega) (by omega) (by omega)
                refine tr_icmp_ne (tgt := 156) hx hb gX12_halls_8.2.2.2.2.1 (by decide) (Eq.refl _) (Eq.refl _) (fun c112 => ?_) (fun c112 => ?_)
                · replace hF := hF.trans (congrArg (dv_k f_X12_halls_14b) (congrArg (dv_k f_X12_halls_93b) (if_pos c112)))
                  exact jn156 H93 locs ls j93_4 hB hR (lv_sub hl [1, 2, 3, 4, 6, 5] rfl) hF
                · replace hF := hF.trans (congrArg (dv_k f_X12_halls_14b) (congrArg (dv_k f_X12_halls_93b) (if_neg (not_not_intro c112))))
                  refine lv_iload hx hb gX12_halls_8.2.2.2.2.2.1 (lv_at hl 0 rfl) ?_
                  refine th_call (th_runS (As := [.int x2]) (rest := []) hC mf_X12_isSide km_X12_119 st_X12_isSide (c_X12_isSide l G Γ H93 hB.1 hU x2) rfl rfl ⟨Nat.le_of_ble_eq_true rfl, Nat.le_of_ble_eq_true rfl⟩ rfl hl.1 rfl (Nat.le_of_ble_eq_true rfl) gX12_halls_8.2.2.2.2.2.2.1 ⟨Nat.le_refl _, Nat.le_refl _⟩) hB.2.1 (fun v117 H117 locs hp hz hS => ?_)
                  obtain ⟨x6, rfl, lx6, ux6, q117_0, q117_1, rfl⟩ := hp
                  have hB := th_B_s hB hS
                  replace hF := hF.trans (congrArg (dv_k f_X12_halls_14b) (congrArg (dv_k f_X12_halls_93b) (dv_bn2 (q117_1))))
                  refine W.eq (g2 := F0 m 120 ls [.int x6]) rfl ?_
                  refine tr_if_eq (tgt := 156) hx hb gX12_halls_8.2.2.2.2.2.2.2 (by decide) (Eq.refl _) (fun c120 => ?_) (fun c120 => ?_)
                  · replace hF := hF.trans (congrArg (dv_k f_X12_halls_14b) (congrArg (dv_k f_X12_halls_93b) (if_pos c120)))
                    exact jn156 H93 locs ls j93_4 hB hR (lv_sub hl [1, 2, 3, 4, 6, 5] rfl) hF
                  · replace hF := hF.trans (congrArg (dv_k f_X12_halls_14b) (congrArg (dv_k f_X12_halls_93b) (if_neg c120)))
                    refine lv_aload_n hx hb gX12_halls_9.1 rfl (lv_at hl 1 rfl) ?_
                    refine lv_iload_n hx hb gX12_halls_9.2.1 rfl (lv_at hl 3 rfl) ?_
                    refine lv_iload hx hb gX12_halls_9.2.2.1 (lv_at hl 6 rfl) ?_
                    refine lv_iload hx hb gX12_halls_9.2.2.2.1 (lv_at hl 0 rfl) ?_
                    refine th_call (th_runV (As := [.int j14_2, .int j93_5, .int x2]) (rest := []) hC mf_X12_canFill km_X12_455 im_X12_canFill se_X12_canFill (c_X12_canFill l G Γ H93 hB.1 hR.1 hU a0 h0 j14_2 j93_5 (by omega) (by omega) x2 (by omega) (by omega)) rfl rfl ⟨Nat.le_of_ble_eq_true rfl, Nat.le_of_ble_eq_true rfl⟩ hB.1 h0 ro_46 rfl rfl hl.1 rfl (Nat.le_of_ble_eq_true rfl) gX12_halls_9.2.2.2.2.1 ⟨Nat.le_refl _, Nat.le_refl _⟩) hB.2.1 (fun v129 H129 locs hp hz hS => ?_)
                    have hRD := hR
                    obtain ⟨x7, rfl, lx7, ux7, hI1, hf, hR, z129_0⟩ := hp
                    have hR := th_RK_c hR hRD hI1 h0 hf (by decide)
                    have hB := th_B_c hB hI1 hS hf (by decide)
                    replace hF := hF.trans (congrArg (dv_k f_X12_halls_14b) (congrArg (dv_k f_X12_halls_93b) (dv_bn2 (z129_0))))
                    refine W.eq (g2 := F0 m 132 ls [.int x7]) rfl ?_
                    refine tr_if_ne (tgt := 138) hx hb gX12_halls_9.2.2.2.2.2.1 (by decide) (Eq.refl _) (fun c132 => ?_) (fun c132 => ?_)
                    · replace hF := hF.trans (congrArg (dv_k f_X12_halls_14b) (congrArg (dv_k f_X12_halls_93b) (if_pos c132)))
                      refine lv_iload hx hb gX12_halls_9.2.2.2.2.2.2.2 (lv_at hl 5 rfl) ?_
                      refine lv_iload_n hx hb gX12_halls_10.1 rfl (lv_at hl 2 rfl) ?_
                      refine tr_icmp_ne (tgt := 153) hx hb gX12_halls_10.2.1 (by decide) (Eq.refl _) (Eq.refl _) (fun c141 => ?_) (fun c141 => ?_)
                      · replace hF := hF.trans (congrArg (dv_k f_X12_halls_14b) (congrArg (dv_k f_X12_halls_93b) (if_pos c141)))
                        refine tr_iincE (fun x8 => [(4, .int x8), (6, .int x2), (0, .ref a0), (1, .int p1), (2, .int j14_2), (3, .int j14_3), (5, .int j93_5)]) hx hb gX12_halls_11.1 hl (k := 5) rfl (Eq.refl _) (by decide) (fun _ => rfl) (fun x8 ls ex8 hl => ?_)
                        have lx8 := ti_lo x8; have ux8 := ti_hi x8
                        replace hF := hF.trans (congrArg (dv_k f_X12_halls_14b) (congrArg (dv_k f_X12_halls_93b) (dv_bn (ex8))))
                        exact jn156 H129 locs ls x8 hB hR (lv_sub hl [2, 3, 4, 5, 6, 0] rfl) hF
                      · replace hF := hF.trans (congrArg (dv_k f_X12_halls_14b) (congrArg (dv_k f_X12_halls_93b) (if_neg (not_not_intro c141))))
                        refine lv_bipush (v := 100) hx hb gX12_halls_10.2.2.1 (by decide) ?_
                        refine lv_iload hx hb gX12_halls_10.2.2.2.1 (lv_at hl 6 rfl) ?_
                        refine tr_imul hx hb gX12_halls_10.2.2.2.2.1 tk_100 (Eq.refl _) (by omega) (by omega) (fun x9 ex9 => ?_)
                        replace hF := hF.trans (congrArg (dv_k f_X12_halls_14b) (congrArg (dv_k f_X12_halls_93b) (dv_bn (ex9.symm))))
                        refine lv_iload hx hb gX12_halls_10.2.2.2.2.2.1 (lv_at hl 0 rfl) ?_
                        refine tr_iadd hx hb gX12_halls_10.2.2.2.2.2.2.1 (Eq.refl _) (Eq.refl _) (by omega) (by omega) (fun x10 ex10 => ?_)
                        replace hF := hF.trans (congrArg (dv_k f_X12_halls_14b) (congrArg (dv_k f_X12_halls_93b) (dv_bn (ex10.symm))))
                        replace hF := hF.trans (congrArg (dv_k f_X12_halls_14b) (dv_kr))
                        replace hF := hF.trans (dv_kr)
                        exact th_iret hC hH hr hlocks rfl hB.2.1 ⟨_, rfl, hB.1, hB.2.2, hR, (hF0.symm.trans hF)⟩ gX12_halls_10.2.2.2.2.2.2.2
                    · replace hF := hF.trans (congrArg (dv_k f_X12_halls_14b) (congrArg (dv_k f_X12_halls_93b) (if_neg (not_not_intro c132))))
                      refine lv_goto (tgt := 156) hx hb gX12_halls_9.2.2.2.2.2.2.1 (by decide) ?_
                      exact jn156 H129 locs ls j93_4 hB hR (lv_sub hl [1, 2, 3, 4, 6, 5] rfl) hF
          exact lp93 ((2147483648 : Int) - (1)).toNat H84 locs ls 0 1 hB hR (lv_sub hl [2, 3, 4, 5, 1, 0] rfl) (by rw [tk_0, tk_1]; exact hF) (by decide) (by decide) (by have w0 := tk_0; have w1 := tk_1; omega)
        · replace hF := hF.trans (congrArg (dv_k f_X12_halls_14b) (if_neg (Int.not_le.mpr c20)))
          refine lv_aload_n hx hb gX12_halls_1.2.2.2.2.2.2.2 rfl (lv_at hl 0 rfl) ?_
          refine lv_iload hx hb gX12_halls_2.1 (lv_at hl 4 rfl) ?_
          refine th_call (th_runV (As := [.int j14_4]) (rest := []) hC mf_X12_isWhole km_X12_357 im_X12_isWhole se_X12_isWhole (c_X12_isWhole l G Γ H0 hB.1 hU a0 h0 j14_4 (by omega) (by omega)) rfl rfl ⟨Nat.le_of_ble_eq_true rfl, Nat.le_of_ble_eq_true rfl⟩ hB.1 h0 ro_46 rfl rfl hl.1 rfl (Nat.le_of_ble_eq_true rfl) gX12_halls_2.2.1 ⟨Nat.le_refl _, Nat.le_refl _⟩) hB.2.1 (fun v26 H26 locs hp hz hS => ?_)
          obtain ⟨x11, rfl, lx11, ux11, q26_0, rfl⟩ := hp
          have hB := th_B_s hB hS
          replace hF := hF.trans (congrArg (dv_k f_X12_halls_14b) (dv_bn2 (q26_0)))
          refine W.eq (g2 := F0 m 29 ls [.int x11]) rfl ?_
          have jn66 : ∀ (locs : List Loc) (ls : Array Slot) (j66_2 : Int32) (j66_3 : Int32), th_B G Γ Γ [(46, 41), (46, 42), (46, 43), (67, 0), (66, 0), (59, 0), (64, 0), (65, 0), (46, 39), (46, 40), (63, 0), (46, 44), (46, 45), (46, 22), (46, 24), (58, 0), (46, 23), (46, 25)] H0 H0 locs → lv_has ls 7 [(0, .ref a0), (1, .int p1), (4, .int j14_4), (2, .int j66_2), (3, .int j66_3)] → F = dv_k f_X12_halls_14b (f_X12_halls_66 (dv G Γ H0) ((a0 : Int)) (p1.toInt) (j14_4.toInt) (j66_2.toInt) (j66_3.toInt)) → 0 ≤ j66_3.toInt → j66_3.toInt ≤ 8192 → j66_3.toInt ≤ 144 * j14_4.toInt + 144 → W p l e ({ frames := 53, cells := 0, slots := 0, locals := 1675 } : Room) s m ([.ref a0, .int p1] : List Value).toArray below meth c H0 locs 0 0 (MQ below (th_Q (fun (v : Option Value) (H1 : Heap) => ∃ r : Int32, v = some (.int r) ∧ th_I G Γ H1 ∧ th_F G Γ [(46, 41), (46, 42), (46, 43), (67, 0), (66, 0), (59, 0), (64, 0), (65, 0), (46, 39), (46, 40), (63, 0), (46, 44), (46, 45), (46, 22), (46, 24), (58, 0), (46, 23), (46, 25)] H0 H1 ∧ th_RK a0 G Γ H1 ∧ (f_X12_halls (dv G Γ H0) (a0 : Int) p1.toInt = (dv G Γ H1, r.toInt))) G) ([.ref a0, .int p1] : List Value).toArray s 0 0 (fun q => G.1.2.2 ≤ q)) (F0 m 66 ls []) := by
            intro locs ls j66_2 j66_3 hB hl hF g66_0 g66_1 g66_2
            have lj66_2 := ti_lo j66_2; have uj66_2 := ti_hi j66_2
            have lj66_3 := ti_lo j66_3; have uj66_3 := ti_hi j66_3
            replace hF := hF.trans (congrArg (dv_k f_X12_halls_14b) (f_X12_halls_66.eq_1 (dv G Γ H0) ((a0 : Int)) (p1.toInt) (j14_4.toInt) (j66_2.toInt) (j66_3.toInt)))
            refine tr_iinc (fun x12 => [(4, .int x12), (0, .ref a0), (1, .int p1), (2, .int j66_2), (3, .int j66_3)]) hx hb gX12_halls_5.2.2.1 hl (k := 2) rfl (Eq.refl _) tk_1 (by omega) (by omega) (by decide) (fun _ => rfl) (fun x12 ls ex12 hl => ?_)
            replace hF := hF.trans (congrArg (dv_k f_X12_halls_14b) (dv_bn (ex12.symm)))
            refine lv_goto (tgt := 14) hx hb gX12_halls_5.2.2.2.1 (by decide) ?_
            replace hF := hF.trans (dv_kl)
            exact ih14 locs ls j66_2 j66_3 x12 hB (lv_sub hl [1, 2, 3, 4, 0] rfl) hF (by omega) (by omega) (by omega) (by omega) (by omega) (by omega)
          refine tr_if_ne (tgt := 35) hx hb gX12_halls_2.2.2.1 (by decide) (Eq.refl _) (fun c29 => ?_) (fun c29 => ?_)
          · replace hF := hF.trans (congrArg (dv_k f_X12_halls_14b) (if_pos c29))
            refine lv_iload_n hx hb gX12_halls_2.2.2.2.2.1 rfl (lv_at hl 2 rfl) ?_
            refine lv_iconst (v := 1) hx hb gX12_halls_2.2.2.2.2.2.1 (by decide) ?_
            refine lv_iload hx hb gX12_halls_2.2.2.2.2.2.2.1 (lv_at hl 4 rfl) ?_
            refine lv_ishl hx hb gX12_halls_2.2.2.2.2.2.2.2 ?_
            refine lv_topi (fun x13 ex13 => ?_)
            have lx13 := ti_lo x13; have ux13 := ti_hi x13
            replace hF := hF.trans (congrArg (dv_k f_X12_halls_14b) (dv_bn (dv_shl_e tk_1 (Eq.refl _) ex13)))
            refine lv_ior hx hb gX12_halls_3.1 ?_
            refine lv_topi (fun x14 ex14 => ?_)
            have lx14 := ti_lo x14; have ux14 := ti_hi x14
            replace hF := hF.trans (congrArg (dv_k f_X12_halls_14b) (dv_bn (dv_or_e (Eq.refl _) (Eq.refl _) ex14)))
            refine lv_istore_n (lv' := [(2, .int x14), (0, .ref a0), (1, .int p1), (3, .int j14_3), (4, .int j14_4)]) hx hb gX12_halls_3.2.1 rfl hl (by decide) rfl (fun ls hl => ?_)
            refine lv_iload_n hx hb gX12_halls_3.2.2.1 rfl (lv_at hl 3 rfl) ?_
            refine lv_aload_n hx hb gX12_halls_3.2.2.2.1 rfl (lv_at hl 1 rfl) ?_
            refine th_getO (j := 2) (r2 := 48) hC cf_X12 hB.1 h0 ro_46 rfl rfl kf_X12_28 gX12_halls_3.2.2.2.2.1 (fun b15 mb15 hb15 => ?_)
            refine lv_bipush (v := 29) hx hb gX12_halls_3.2.2.2.2.2.1 (by decide) ?_
            refine lv_iload hx hb gX12_halls_3.2.2.2.2.2.2.1 (lv_at hl 4 rfl) ?_
            refine tr_iadd hx hb gX12_halls_3.2.2.2.2.2.2.2 tk_29 (Eq.refl _) (by omega) (by omega) (fun x16 ex16 => ?_)
            replace hF := hF.trans (congrArg (dv_k f_X12_halls_14b) (dv_bn (ex16.symm)))
            refine th_ialdF hC hB.1 hb15 ro_48 rfl (Eq.refl _) (by omega) (by omega) (ek_side (by omega) (by omega)) gX12_halls_4.1 (fun x17 mx17 lx17 ux17 => ?_)
            replace hF := hF.trans (congrArg (dv_k f_X12_halls_14b) (dv_bn (dv_aldI hB.1 hU hb15 ow_48 (z := x16.toInt) mx17 (by omega))))
            refine lv_aload_n hx hb gX12_halls_4.2.1 rfl (lv_at hl 1 rfl) ?_
            refine th_getK hC cf_X12 hB.1 h0 ro_46 rfl (j := 2) (by decide) mb15 kf_X12_28 gX12_halls_4.2.2.1 ?_
            refine lv_bipush (v := 29) hx hb gX12_halls_4.2.2.2.1 (by decide) ?_
            refine lv_iload hx hb gX12_halls_4.2.2.2.2.1 (lv_at hl 4 rfl) ?_
            refine tr_iadd hx hb gX12_halls_4.2.2.2.2.2.1 tk_29 (Eq.refl _) (by omega) (by omega) (fun x18 ex18 => ?_)
            replace hF := hF.trans (congrArg (dv_k f_X12_halls_14b) (dv_bn (ex18.symm)))
            refine th_ialdF hC hB.1 hb15 ro_48 rfl (Eq.refl _) (by omega) (by omega) (ek_side (by omega) (by omega)) gX12_halls_4.2.2.2.2.2.2.1 (fun x19 mx19 lx19 ux19 => ?_)
            replace hF := hF.trans (congrArg (dv_k f_X12_halls_14b) (dv_bn (dv_aldI hB.1 hU hb15 ow_48 (z := x18.toInt) mx19 (by omega))))
            have q21 := ti_mulr (a := x17.toInt) (b := x19.toInt) (A := 12) (B := 12) (by omega) (by omega) (by omega) (by omega)
            generalize hex20 : x17.toInt * x19.toInt = wx20 at q21
            refine tr_imul hx hb gX12_halls_4.2.2.2.2.2.2.2 (Eq.refl _) (Eq.refl _) (by rw [hex20]; omega) (by rw [hex20]; omega) (fun x20 ex20 => ?_)
            rw [hex20] at ex20
            replace hF := hF.trans (congrArg (dv_k f_X12_halls_14b) (dv_bn (hex20.trans ex20.symm)))
            refine tr_iadd hx hb gX12_halls_5.1 (Eq.refl _) (Eq.refl _) (by omega) (by omega) (fun x22 ex22 => ?_)
            replace hF := hF.trans (congrArg (dv_k f_X12_halls_14b) (dv_bn (ex22.symm)))
            refine lv_istore_n (lv' := [(3, .int x22), (2, .int x14), (0, .ref a0), (1, .int p1), (4, .int j14_4)]) hx hb gX12_halls_5.2.1 rfl hl (by decide) rfl (fun ls hl => ?_)
            exact jn66 locs ls x14 x22 hB (lv_sub hl [2, 3, 4, 1, 0] rfl) hF (by omega) (by omega) (by omega)
          · replace hF := hF.trans (congrArg (dv_k f_X12_halls_14b) (if_neg (not_not_intro c29)))
            refine lv_goto (tgt := 66) hx hb gX12_halls_2.2.2.2.1 (by decide) ?_
            exact jn66 locs ls j14_2 j14_3 hB (lv_sub hl [0, 1, 4, 2, 3] rfl) hF (by omega) (by omega) (by omega)
    exact lp14 ((2147483648 : Int) - (0)).toNat [] ls 0 0 0 hB (lv_sub hl [3, 4, 2, 1, 0] rfl) (by rw [tk_0]; exact hF) (by decide) (by decide) (by decide) (by decide) (by have w0 := tk_0; omega) (by have w0 := tk_0; omega)
  · replace hF := hF.trans (if_neg (Int.not_le.mpr c2))
    refine lv_iconst (v := (-1)) hx hb gX12_halls_0.2.2.2.1 (by decide) ?_
    exact th_iret hC hH hr hlocks rfl hB.2.1 ⟨_, rfl, hB.1, hB.2.2, hR, (hF0.symm.trans (hF.trans (by rw [tk_m1])))⟩ gX12_halls_0.2.2.2.2.1

set_option maxHeartbeats 4000000 in
set_option maxRecDepth 100000 in
theorem c_X12_laysFloors (l : Launch) (G : th_G) (Γ : th_Ga) (H0 : Heap) (hI : th_I G Γ H0) (hU : dv_U Γ) (a0 : Nat) (h0 : Γ a0 = (46, 0)) (hR : th_RK a0 G Γ H0) : Met l yX12_laysFloors (.code yX12_laysFloors cX12_laysFloors 2 (none) :: th_tb) ({ frames := 54, cells := 0, slots := 0, locals := 1697 } : Room) (th_P [.ref a0] G H0) (th_Q (fun (v : Option Value) (H1 : Heap) => v = none ∧ th_I G Γ H1 ∧ th_F G Γ [(46, 41), (46, 42), (46, 43), (67, 0), (66, 0), (59, 0), (64, 0), (65, 0), (46, 39), (46, 40), (63, 0), (46, 44), (46, 45), (46, 22), (46, 24), (58, 0), (46, 23), (46, 25)] H0 H1 ∧ th_RK a0 G Γ H1 ∧ (f_X12_laysFloors (dv G Γ H0) (a0 : Int) = (dv G Γ H1, 0))) G) 0 0 (fun q => G.1.2.2 ≤ q) := by
  refine th_met RX12 (by decide) rfl (Nat.le_of_ble_eq_true rfl) ?_
  intro p e s m below meth c hC hH hr hlocks hnm ls hl
  have hx := hC.1
  have hb := hC.2.1
  have hB : th_B G Γ Γ [(46, 41), (46, 42), (46, 43), (67, 0), (66, 0), (59, 0), (64, 0), (65, 0), (46, 39), (46, 40), (63, 0), (46, 44), (46, 45), (46, 22), (46, 24), (58, 0), (46, 23), (46, 25)] H0 H0 [] := ⟨hI, va_S.rf, th_F_rf⟩
  have hl : lv_has ls 2 [(0, .ref a0)] := hl
  obtain ⟨F, hF0⟩ : ∃ F, F = f_X12_laysFloors (dv G Γ H0) ((a0 : Int)) := ⟨_, rfl⟩
  have hF := hF0.trans (f_X12_laysFloors.eq_1 (dv G Γ H0) ((a0 : Int)))
  refine lv_iconst (v := 0) hx hb gX12_laysFloors_0.1 (by decide) ?_
  refine lv_istore_n (lv' := [(1, .int 0), (0, .ref a0)]) hx hb gX12_laysFloors_0.2.1 rfl hl (by decide) rfl (fun ls hl => ?_)
  have lp2 : ∀ (n2 : Nat) (H2 : Heap) (locs : List Loc) (ls : Array Slot) (j2_1 : Int32), th_B G Γ Γ [(46, 41), (46, 42), (46, 43), (67, 0), (66, 0), (59, 0), (64, 0), (65, 0), (46, 39), (46, 40), (63, 0), (46, 44), (46, 45), (46, 22), (46, 24), (58, 0), (46, 23), (46, 25)] H0 H2 locs → th_RK a0 G Γ H2 → lv_has ls 2 [(0, .ref a0), (1, .int j2_1)] → F = dv_lp f_X12_laysFloors_2b (dv G Γ H2, (a0 : Int), j2_1.toInt) → 0 ≤ j2_1.toInt → j2_1.toInt ≤ 1296 → (2147483648 : Int) - j2_1.toInt ≤ (n2 : Int) → W p l e ({ frames := 54, cells := 0, slots := 0, locals := 1697 } : Room) s m ([.ref a0] : List Value).toArray below meth c H2 locs 0 0 (MQ below (th_Q (fun (v : Option Value) (H1 : Heap) => v = none ∧ th_I G Γ H1 ∧ th_F G Γ [(46, 41), (46, 42), (46, 43), (67, 0), (66, 0), (59, 0), (64, 0), (65, 0), (46, 39), (46, 40), (63, 0), (46, 44), (46, 45), (46, 22), (46, 24), (58, 0), (46, 23), (46, 25)] H0 H1 ∧ th_RK a0 G Γ H1 ∧ (f_X12_laysFloors (dv G Γ H0) (a0 : Int) = (dv G Γ H1, 0))) G) ([.ref a0] : List Value).toArray s 0 0 (fun q => G.1.2.2 ≤ q)) (F0 m 2 ls []) := by
    intro n2
    induction n2 with
    | zero => intro H2 locs ls j2_1 hB hR hl hF g2_0 g2_1 hm2; exact absurd hm2 (by have := ti_hi j2_1; omega)
    | succ n2 ih2 =>
      intro H2 locs ls j2_1 hB hR hl hF g2_0 g2_1 hm2
      have lj2_1 := ti_lo j2_1; have uj2_1 := ti_hi j2_1
      have hm2 : (2147483648 : Int) - j2_1.toInt ≤ (n2 : Int) + 1 := by omega
      replace hF := hF.trans (dv_lp_eq)
      replace hF := hF.trans (congrArg (dv_k f_X12_laysFloors_2b) (f_X12_laysFloors_2c.eq_1 (dv G Γ H2) ((a0 : Int)) (j2_1.toInt)))
      refine lv_iload_n hx hb gX12_laysFloors_0.2.2.1 rfl (lv_at hl 1 rfl) ?_
      refine lv_sipush (v := 1296) hx hb gX12_laysFloors_0.2.2.2.1 (by decide) ?_
      refine tr_icmp_ge (tgt := 22) hx hb gX12_laysFloors_0.2.2.2.2.1 (by decide) (Eq.refl _) tk_1296 (fun c6 => ?_) (fun c6 => ?_)
      · replace hF := hF.trans (congrArg (dv_k f_X12_laysFloors_2b) (if_pos c6))
        refine lv_aload_n hx hb gX12_laysFloors_1.2.2.2.2.1 rfl (lv_at hl 0 rfl) ?_
        refine lv_iconst (v := 1) hx hb gX12_laysFloors_1.2.2.2.2.2.1 (by decide) ?_
        refine th_call (th_runV (As := [.int 1]) (rest := []) hC mf_X12_fillsNow km_X12_445 im_X12_fillsNow se_X12_fillsNow (c_X12_fillsNow l G Γ H2 hB.1 hU a0 h0 hR 1 (by decide) (by decide)) rfl rfl ⟨Nat.le_of_ble_eq_true rfl, Nat.le_of_ble_eq_true rfl⟩ hB.1 h0 ro_46 rfl rfl hl.1 rfl (Nat.le_of_ble_eq_true rfl) gX12_laysFloors_1.2.2.2.2.2.2.1 ⟨Nat.le_refl _, Nat.le_refl _⟩) hB.2.1 (fun v24 H24 locs hp hz hS => ?_)
        obtain ⟨rfl, hI1, hf, hR, z24_0⟩ := hp
        have hB := th_B_c hB hI1 hS hf (by decide)
        have zf24 := z24_0
        rw [tk_1] at zf24
        replace hF := hF.trans (congrArg (dv_k f_X12_laysFloors_2b) (dv_bn2 (zf24)))
        refine W.eq (g2 := F0 m 27 ls []) rfl ?_
        replace hF := hF.trans (dv_kr)
        exact th_vret hC hH hr hlocks hB.2.1 ⟨rfl, hB.1, hB.2.2, hR, (hF0.symm.trans hF)⟩ gX12_laysFloors_1.2.2.2.2.2.2.2
      · replace hF := hF.trans (congrArg (dv_k f_X12_laysFloors_2b) (if_neg (Int.not_le.mpr c6)))
        refine lv_aload_n hx hb gX12_laysFloors_0.2.2.2.2.2.1 rfl (lv_at hl 0 rfl) ?_
        refine th_getO (j := 38) (r2 := 67) hC cf_X12 hB.1 h0 ro_46 rfl rfl kf_X12_90 gX12_laysFloors_0.2.2.2.2.2.2.1 (fun b1 mb1 hb1 => ?_)
        have sb1 := (th_F_o hB.2.2 h0 ro_46 (j := 38) (by decide) (by decide)).symm.trans mb1
        refine lv_iload_n hx hb gX12_laysFloors_0.2.2.2.2.2.2.2 rfl (lv_at hl 1 rfl) ?_
        refine lv_iconst (v := 0) hx hb gX12_laysFloors_1.1 (by decide) ?_
        have hIo := hB.1
        refine th_iastF hC hB hb1 (Or.inl hb1) ro_67 rfl (by decide) (Eq.refl _) (by omega) (by omega) th_sIa gX12_laysFloors_1.2.1 (fun H15 locs hB hf15 hst15 => ?_)
        have hf := hf15
        have mm2 := (th_F_o hf h0 ro_46 (j := 38) (by decide) (by decide)).trans mb1
        have hR := th_RK_F hB.1 hR h0 hf (th_T_s hb1 ro_67 hst15) (by decide)
        replace hF := hF.trans (congrArg (dv_k f_X12_laysFloors_2b) (dv_bn (dv_stoI hIo hB.1 hU hb1 ow_67 (i := j2_1.toInt) hst15 tk_0 (by omega))))
        refine tr_iinc (fun x3 => [(1, .int x3), (0, .ref a0)]) hx hb gX12_laysFloors_1.2.2.1 hl (k := 1) rfl (Eq.refl _) tk_1 (by omega) (by omega) (by decide) (fun _ => rfl) (fun x3 ls ex3 hl => ?_)
        replace hF := hF.trans (congrArg (dv_k f_X12_laysFloors_2b) (dv_bn (ex3.symm)))
        refine lv_goto (tgt := 2) hx hb gX12_laysFloors_1.2.2.2.1 (by decide) ?_
        replace hF := hF.trans (dv_kl)
        exact ih2 H15 locs ls x3 hB hR (lv_sub hl [1, 0] rfl) hF (by omega) (by omega) (by omega)
  exact lp2 ((2147483648 : Int) - (0)).toNat H0 [] ls 0 hB hR (lv_sub hl [1, 0] rfl) (by rw [tk_0]; exact hF) (by decide) (by decide) (by have w0 := tk_0; omega)

set_option maxHeartbeats 4000000 in
set_option maxRecDepth 100000 in
theorem c_X12_floors (l : Launch) (G : th_G) (Γ : th_Ga) (H0 : Heap) (hI : th_I G Γ H0) (hU : dv_U Γ) (a0 : Nat) (h0 : Γ a0 = (46, 0)) (hR : th_RK a0 G Γ H0) : Met l yX12_floors (.code yX12_floors cX12_floors 1 (some FieldType.int) :: th_tb) ({ frames := 55, cells := 0, slots := 0, locals := 1718 } : Room) (th_P [.ref a0] G H0) (th_Q (fun (v : Option Value) (H1 : Heap) => ∃ r : Int32, v = some (.int r) ∧ th_I G Γ H1 ∧ th_F G Γ [(46, 41), (46, 42), (46, 43), (67, 0), (66, 0), (59, 0), (64, 0), (65, 0), (46, 39), (46, 40), (63, 0), (46, 44), (46, 45), (46, 22), (46, 24), (58, 0), (46, 23), (46, 25)] H0 H1 ∧ th_RK a0 G Γ H1 ∧ (f_X12_floors (dv G Γ H0) (a0 : Int) = (dv G Γ H1, r.toInt))) G) 0 0 (fun q => G.1.2.2 ≤ q) := by
  refine th_met RX12 (by decide) rfl (Nat.le_of_ble_eq_true rfl) ?_
  intro p e s m below meth c hC hH hr hlocks hnm ls hl
  have hx := hC.1
  have hb := hC.2.1
  have hB : th_B G Γ Γ [(46, 41), (46, 42), (46, 43), (67, 0), (66, 0), (59, 0), (64, 0), (65, 0), (46, 39), (46, 40), (63, 0), (46, 44), (46, 45), (46, 22), (46, 24), (58, 0), (46, 23), (46, 25)] H0 H0 [] := ⟨hI, va_S.rf, th_F_rf⟩
  have hl : lv_has ls 1 [(0, .ref a0)] := hl
  obtain ⟨F, hF0⟩ : ∃ F, F = f_X12_floors (dv G Γ H0) ((a0 : Int)) := ⟨_, rfl⟩
  have hF := hF0.trans (f_X12_floors.eq_1 (dv G Γ H0) ((a0 : Int)))
  refine lv_aload_n hx hb gX12_floors_0.1 rfl (lv_at hl 0 rfl) ?_
  refine th_call (th_runV (As := []) (rest := []) hC mf_X12_laysFloors km_X12_465 im_X12_laysFloors se_X12_laysFloors (c_X12_laysFloors l G Γ H0 hB.1 hU a0 h0 hR) rfl rfl ⟨Nat.le_of_ble_eq_true rfl, Nat.le_of_ble_eq_true rfl⟩ hB.1 h0 ro_46 rfl rfl hl.1 rfl (Nat.le_of_ble_eq_true rfl) gX12_floors_0.2.1 ⟨Nat.le_refl _, Nat.le_refl _⟩) hB.2.1 (fun v1 H1 locs hp hz hS => ?_)
  obtain ⟨rfl, hI1, hf, hR, z1_0⟩ := hp
  have hB := th_B_c hB hI1 hS hf (by decide)
  replace hF := hF.trans (dv_bn2 (z1_0))
  refine W.eq (g2 := F0 m 4 ls []) rfl ?_
  refine lv_aload_n hx hb gX12_floors_0.2.2.1 rfl (lv_at hl 0 rfl) ?_
  refine th_getI (j := 41) hC cf_X12 hB.1 h0 ro_46 rfl rfl kf_X12_406 gX12_floors_0.2.2.2.1 (fun x1 mx1 lx1 ux1 => ?_)
  replace hF := hF.trans (dv_bn (dv_getI h0 ro_46 (j := 41) rfl mx1 (by decide)))
  exact th_iret hC hH hr hlocks rfl hB.2.1 ⟨_, rfl, hB.1, hB.2.2, hR, (hF0.symm.trans hF)⟩ gX12_floors_0.2.2.2.2

set_option maxHeartbeats 4000000 in
set_option maxRecDepth 100000 in
theorem c_X12_look (l : Launch) (G : th_G) (Γ : th_Ga) (H0 : Heap) (hI : th_I G Γ H0) (hU : dv_U Γ) (a0 : Nat) (h0 : Γ a0 = (46, 0)) (hR : th_RK a0 G Γ H0) (p1 : Int32) : Met l yX12_look (.code yX12_look cX12_look 6 (some FieldType.int) :: th_tb) ({ frames := 55, cells := 0, slots := 0, locals := 1718 } : Room) (th_P [.ref a0, .int p1] G H0) (th_Q (fun (v : Option Value) (H1 : Heap) => ∃ r : Int32, v = some (.int r) ∧ th_I G Γ H1 ∧ th_F G Γ [(46, 41), (46, 42), (46, 43), (67, 0), (66, 0), (59, 0), (64, 0), (65, 0), (46, 39), (46, 40), (63, 0), (46, 44), (46, 45), (46, 22), (46, 24), (58, 0), (46, 23), (46, 25)] H0 H1 ∧ th_RK a0 G Γ H1 ∧ (f_X12_look (dv G Γ H0) (a0 : Int) p1.toInt = (dv G Γ H1, r.toInt))) G) 0 0 (fun q => G.1.2.2 ≤ q) := by
  refine th_met RX12 (by decide) rfl (Nat.le_of_ble_eq_true rfl) ?_
  intro p e s m below meth c hC hH hr hlocks hnm ls hl
  have hx := hC.1
  have hb := hC.2.1
  have hB : th_B G Γ Γ [(46, 41), (46, 42), (46, 43), (67, 0), (66, 0), (59, 0), (64, 0), (65, 0), (46, 39), (46, 40), (63, 0), (46, 44), (46, 45), (46, 22), (46, 24), (58, 0), (46, 23), (46, 25)] H0 H0 [] := ⟨hI, va_S.rf, th_F_rf⟩
  have hl : lv_has ls 6 [(0, .ref a0), (1, .int p1)] := hl
  have lp1 := ti_lo p1; have up1 := ti_hi p1
  obtain ⟨F, hF0⟩ : ∃ F, F = f_X12_look (dv G Γ H0) ((a0 : Int)) (p1.toInt) := ⟨_, rfl⟩
  have hF := hF0.trans (f_X12_look.eq_1 (dv G Γ H0) ((a0 : Int)) (p1.toInt))
  refine lv_iload_n hx hb gX12_look_0.1 rfl (lv_at hl 1 rfl) ?_
  refine lv_iconst (v := 0) hx hb gX12_look_0.2.1 (by decide) ?_
  refine lv_iconst (v := 2) hx hb gX12_look_0.2.2.1 (by decide) ?_
  refine th_call (th_runS (As := [.int p1, .int 0, .int 2]) (rest := []) hC mf_X12_lies km_X12_18 st_X12_lies (c_X12_lies l G Γ H0 hB.1 hU p1 0 2) rfl rfl ⟨Nat.le_of_ble_eq_true rfl, Nat.le_of_ble_eq_true rfl⟩ rfl hl.1 rfl (Nat.le_of_ble_eq_true rfl) gX12_look_0.2.2.2.1 ⟨Nat.le_refl _, Nat.le_refl _⟩) hB.2.1 (fun v3 H3 locs hp hz hS => ?_)
  obtain ⟨x1, rfl, lx1, ux1, q3_0, q3_1, q3_2, rfl⟩ := hp
  have hB := th_B_s hB hS
  have w3_1 := tk_0
  have w3_2 := tk_2
  have zf3 := q3_2
  rw [tk_0, tk_2] at zf3
  replace hF := hF.trans (dv_bn2 (zf3))
  refine W.eq (g2 := F0 m 6 ls [.int x1]) rfl ?_
  refine tr_if_ne (tgt := 11) hx hb gX12_look_0.2.2.2.2.1 (by decide) (Eq.refl _) (fun c6 => ?_) (fun c6 => ?_)
  · replace hF := hF.trans (if_pos c6)
    refine lv_aload_n hx hb gX12_look_0.2.2.2.2.2.2.2 rfl (lv_at hl 0 rfl) ?_
    refine th_call (th_runV (As := []) (rest := []) hC mf_X12_laysFloors km_X12_465 im_X12_laysFloors se_X12_laysFloors (c_X12_laysFloors l G Γ H0 hB.1 hU a0 h0 hR) rfl rfl ⟨Nat.le_of_ble_eq_true rfl, Nat.le_of_ble_eq_true rfl⟩ hB.1 h0 ro_46 rfl rfl hl.1 rfl (Nat.le_of_ble_eq_true rfl) gX12_look_1.1 ⟨Nat.le_refl _, Nat.le_refl _⟩) hB.2.1 (fun v12 H12 locs hp hz hS => ?_)
    obtain ⟨rfl, hI1, hf, hR, z12_0⟩ := hp
    have hB := th_B_c hB hI1 hS hf (by decide)
    replace hF := hF.trans (dv_bn2 (z12_0))
    refine W.eq (g2 := F0 m 15 ls []) rfl ?_
    refine lv_iconst (v := (-1)) hx hb gX12_look_1.2.1 (by decide) ?_
    refine lv_istore_n (lv' := [(2, .int (-1)), (0, .ref a0), (1, .int p1)]) hx hb gX12_look_1.2.2.1 rfl hl (by decide) rfl (fun ls hl => ?_)
    refine lv_ldc (v := 1000000) hx hb hC.2.2.2.1 (hC.2.2.2.2.1 _ kw_1623) gX12_look_1.2.2.2.1 ?_
    refine lv_istore_n (lv' := [(3, .int 1000000), (2, .int (-1)), (0, .ref a0), (1, .int p1)]) hx hb gX12_look_1.2.2.2.2.1 rfl hl (by decide) rfl (fun ls hl => ?_)
    refine lv_iconst (v := 0) hx hb gX12_look_1.2.2.2.2.2.1 (by decide) ?_
    refine lv_istore (lv' := [(4, .int 0), (3, .int 1000000), (2, .int (-1)), (0, .ref a0), (1, .int p1)]) hx hb gX12_look_1.2.2.2.2.2.2.1 hl (by decide) rfl (fun ls hl => ?_)
    have lp23 : ∀ (n23 : Nat) (locs : List Loc) (ls : Array Slot) (j23_2 : Int32) (j23_3 : Int32) (j23_4 : Int32), th_B G Γ Γ [(46, 41), (46, 42), (46, 43), (67, 0), (66, 0), (59, 0), (64, 0), (65, 0), (46, 39), (46, 40), (63, 0), (46, 44), (46, 45), (46, 22), (46, 24), (58, 0), (46, 23), (46, 25)] H0 H12 locs → lv_has ls 6 [(0, .ref a0), (1, .int p1), (2, .int j23_2), (3, .int j23_3), (4, .int j23_4)] → F = dv_lp f_X12_look_23b (dv G Γ H12, (a0 : Int), p1.toInt, j23_2.toInt, j23_3.toInt, j23_4.toInt) → (-1) ≤ j23_2.toInt → j23_2.toInt ≤ 143 → j23_3.toInt ≤ 1000000 → 0 ≤ j23_4.toInt → j23_4.toInt ≤ 144 → (2147483648 : Int) - j23_4.toInt ≤ (n23 : Int) → W p l e ({ frames := 55, cells := 0, slots := 0, locals := 1718 } : Room) s m ([.ref a0, .int p1] : List Value).toArray below meth c H12 locs 0 0 (MQ below (th_Q (fun (v : Option Value) (H1 : Heap) => ∃ r : Int32, v = some (.int r) ∧ th_I G Γ H1 ∧ th_F G Γ [(46, 41), (46, 42), (46, 43), (67, 0), (66, 0), (59, 0), (64, 0), (65, 0), (46, 39), (46, 40), (63, 0), (46, 44), (46, 45), (46, 22), (46, 24), (58, 0), (46, 23), (46, 25)] H0 H1 ∧ th_RK a0 G Γ H1 ∧ (f_X12_look (dv G Γ H0) (a0 : Int) p1.toInt = (dv G Γ H1, r.toInt))) G) ([.ref a0, .int p1] : List Value).toArray s 0 0 (fun q => G.1.2.2 ≤ q)) (F0 m 23 ls []) := by
      intro n23
      induction n23 with
      | zero => intro locs ls j23_2 j23_3 j23_4 hB hl hF g23_0 g23_1 g23_2 g23_3 g23_4 hm23; exact absurd hm23 (by have := ti_hi j23_4; omega)
      | succ n23 ih23 =>
        intro locs ls j23_2 j23_3 j23_4 hB hl hF g23_0 g23_1 g23_2 g23_3 g23_4 hm23
        have lj23_2 := ti_lo j23_2; have uj23_2 := ti_hi j23_2
        have lj23_3 := ti_lo j23_3; have uj23_3 := ti_hi j23_3
        have lj23_4 := ti_lo j23_4; have uj23_4 := ti_hi j23_4
        have hm23 : (2147483648 : Int) - j23_4.toInt ≤ (n23 : Int) + 1 := by omega
        replace hF := hF.trans (dv_lp_eq)
        replace hF := hF.trans (congrArg (dv_k f_X12_look_23b) (f_X12_look_23c.eq_1 (dv G Γ H12) ((a0 : Int)) (p1.toInt) (j23_2.toInt) (j23_3.toInt) (j23_4.toInt)))
        refine lv_iload hx hb gX12_look_1.2.2.2.2.2.2.2 (lv_at hl 4 rfl) ?_
        refine lv_sipush (v := 144) hx hb gX12_look_2.1 (by decide) ?_
        have jn72 : ∀ (locs : List Loc) (ls : Array Slot) , th_B G Γ Γ [(46, 41), (46, 42), (46, 43), (67, 0), (66, 0), (59, 0), (64, 0), (65, 0), (46, 39), (46, 40), (63, 0), (46, 44), (46, 45), (46, 22), (46, 24), (58, 0), (46, 23), (46, 25)] H0 H12 locs → lv_has ls 6 [(1, .int p1), (2, .int j23_2), (3, .int j23_3)] → F = dv_k f_X12_look_23b (f_X12_look_72 (dv G Γ H12) (p1.toInt) (j23_2.toInt) (j23_3.toInt)) → W p l e ({ frames := 55, cells := 0, slots := 0, locals := 1718 } : Room) s m ([.ref a0, .int p1] : List Value).toArray below meth c H12 locs 0 0 (MQ below (th_Q (fun (v : Option Value) (H1 : Heap) => ∃ r : Int32, v = some (.int r) ∧ th_I G Γ H1 ∧ th_F G Γ [(46, 41), (46, 42), (46, 43), (67, 0), (66, 0), (59, 0), (64, 0), (65, 0), (46, 39), (46, 40), (63, 0), (46, 44), (46, 45), (46, 22), (46, 24), (58, 0), (46, 23), (46, 25)] H0 H1 ∧ th_RK a0 G Γ H1 ∧ (f_X12_look (dv G Γ H0) (a0 : Int) p1.toInt = (dv G Γ H1, r.toInt))) G) ([.ref a0, .int p1] : List Value).toArray s 0 0 (fun q => G.1.2.2 ≤ q)) (F0 m 72 ls []) := by
          intro locs ls hB hl hF
          replace hF := hF.trans (congrArg (dv_k f_X12_look_23b) (f_X12_look_72.eq_1 (dv G Γ H12) (p1.toInt) (j23_2.toInt) (j23_3.toInt)))
          refine lv_iload_n hx hb gX12_look_4.2.2.2.2.2.1 rfl (lv_at hl 1 rfl) ?_
          refine lv_iconst (v := (-1)) hx hb gX12_look_4.2.2.2.2.2.2.1 (by decide) ?_
          refine tr_icmp_ne (tgt := 79) hx hb gX12_look_4.2.2.2.2.2.2.2 (by decide) (Eq.refl _) tk_m1 (fun c74 => ?_) (fun c74 => ?_)
          · replace hF := hF.trans (congrArg (dv_k f_X12_look_23b) (if_pos c74))
            refine lv_iload_n hx hb gX12_look_5.2.2.1 rfl (lv_at hl 0 rfl) ?_
            refine tr_if_ne (tgt := 90) hx hb gX12_look_5.2.2.2.1 (by decide) (Eq.refl _) (fun c80 => ?_) (fun c80 => ?_)
            · replace hF := hF.trans (congrArg (dv_k f_X12_look_23b) (if_pos c80))
              refine lv_iload_n hx hb gX12_look_6.1 rfl (lv_at hl 0 rfl) ?_
              refine lv_iconst (v := 1) hx hb gX12_look_6.2.1 (by decide) ?_
              refine tr_icmp_ne (tgt := 102) hx hb gX12_look_6.2.2.1 (by decide) (Eq.refl _) tk_1 (fun c92 => ?_) (fun c92 => ?_)
              · replace hF := hF.trans (congrArg (dv_k f_X12_look_23b) (if_pos c92))
                refine lv_iload_n hx hb gX12_look_6.2.2.2.2.2.2.2 rfl (lv_at hl 2 rfl) ?_
                replace hF := hF.trans (dv_kr)
                exact th_iret hC hH hr hlocks rfl hB.2.1 ⟨_, rfl, hB.1, hB.2.2, hR, (hF0.symm.trans hF)⟩ gX12_look_7
              · replace hF := hF.trans (congrArg (dv_k f_X12_look_23b) (if_neg (not_not_intro c92)))
                refine lv_iload_n hx hb gX12_look_6.2.2.2.1 rfl (lv_at hl 1 rfl) ?_
                refine lv_bipush (v := 12) hx hb gX12_look_6.2.2.2.2.1 (by decide) ?_
                refine tr_idiv hx hb gX12_look_6.2.2.2.2.2.1 (Eq.refl _) tk_12 (by omega) (by omega) (fun x2 ex2 => ?_)
                replace hF := hF.trans (congrArg (dv_k f_X12_look_23b) (dv_bn (ex2.symm)))
                refine lv_goto (tgt := 103) hx hb gX12_look_6.2.2.2.2.2.2.1 (by decide) ?_
                replace hF := hF.trans (dv_kr)
                exact th_iret hC hH hr hlocks rfl hB.2.1 ⟨_, rfl, hB.1, hB.2.2, hR, (hF0.symm.trans hF)⟩ gX12_look_7
            · replace hF := hF.trans (congrArg (dv_k f_X12_look_23b) (if_neg (not_not_intro c80)))
              refine lv_iload_n hx hb gX12_look_5.2.2.2.2.1 rfl (lv_at hl 1 rfl) ?_
              refine lv_bipush (v := 12) hx hb gX12_look_5.2.2.2.2.2.1 (by decide) ?_
              refine tr_irem hx hb gX12_look_5.2.2.2.2.2.2.1 (Eq.refl _) tk_12 (by omega) (by omega) (fun x3 ex3 => ?_)
              replace hF := hF.trans (congrArg (dv_k f_X12_look_23b) (dv_bn (ex3.symm)))
              refine lv_goto (tgt := 103) hx hb gX12_look_5.2.2.2.2.2.2.2 (by decide) ?_
              replace hF := hF.trans (dv_kr)
              exact th_iret hC hH hr hlocks rfl hB.2.1 ⟨_, rfl, hB.1, hB.2.2, hR, (hF0.symm.trans hF)⟩ gX12_look_7
          · replace hF := hF.trans (congrArg (dv_k f_X12_look_23b) (if_neg (not_not_intro c74)))
            refine lv_iconst (v := (-1)) hx hb gX12_look_5.1 (by decide) ?_
            replace hF := hF.trans (dv_kr)
            exact th_iret hC hH hr hlocks rfl hB.2.1 ⟨_, rfl, hB.1, hB.2.2, hR, (hF0.symm.trans (hF.trans (by rw [tk_m1])))⟩ gX12_look_5.2.1
        refine tr_icmp_ge (tgt := 72) hx hb gX12_look_2.2.1 (by decide) (Eq.refl _) tk_144 (fun c28 => ?_) (fun c28 => ?_)
        · replace hF := hF.trans (congrArg (dv_k f_X12_look_23b) (if_pos c28))
          exact jn72 locs ls hB (lv_sub hl [1, 2, 3] rfl) hF
        · replace hF := hF.trans (congrArg (dv_k f_X12_look_23b) (if_neg (Int.not_le.mpr c28)))
          refine lv_aload_n hx hb gX12_look_2.2.2.1 rfl (lv_at hl 0 rfl) ?_
          refine th_getI (j := 41) hC cf_X12 hB.1 h0 ro_46 rfl rfl kf_X12_406 gX12_look_2.2.2.2.1 (fun x4 mx4 lx4 ux4 => ?_)
          replace hF := hF.trans (congrArg (dv_k f_X12_look_23b) (dv_bn (dv_getI h0 ro_46 (j := 41) rfl mx4 (by decide))))
          refine tr_if_le (tgt := 72) hx hb gX12_look_2.2.2.2.2.1 (by decide) (Eq.refl _) (fun c35 => ?_) (fun c35 => ?_)
          · replace hF := hF.trans (congrArg (dv_k f_X12_look_23b) (if_pos c35))
            exact jn72 locs ls hB (lv_sub hl [1, 2, 3] rfl) hF
          · replace hF := hF.trans (congrArg (dv_k f_X12_look_23b) (if_neg (Int.not_le.mpr c35)))
            refine lv_aload_n hx hb gX12_look_2.2.2.2.2.2.1 rfl (lv_at hl 0 rfl) ?_
            refine lv_iload hx hb gX12_look_2.2.2.2.2.2.2.1 (lv_at hl 4 rfl) ?_
            refine th_call (th_runV (As := [.int j23_4]) (rest := []) hC mf_X12_mostAt km_X12_468 im_X12_mostAt se_X12_mostAt (c_X12_mostAt l G Γ H12 hB.1 hU a0 h0 j23_4 (by omega) (by omega)) rfl rfl ⟨Nat.le_of_ble_eq_true rfl, Nat.le_of_ble_eq_true rfl⟩ hB.1 h0 ro_46 rfl rfl hl.1 rfl (Nat.le_of_ble_eq_true rfl) gX12_look_2.2.2.2.2.2.2.2 ⟨Nat.le_refl _, Nat.le_refl _⟩) hB.2.1 (fun v41 H41 locs hp hz hS => ?_)
            obtain ⟨x5, rfl, q41_0, rfl⟩ := hp
            have hB := th_B_s hB hS
            replace hF := hF.trans (congrArg (dv_k f_X12_look_23b) (dv_bn2 (q41_0)))
            refine W.eq (g2 := F0 m 44 ls [.int x5]) rfl ?_
            refine lv_istore (lv' := [(5, .int x5), (0, .ref a0), (1, .int p1), (2, .int j23_2), (3, .int j23_3), (4, .int j23_4)]) hx hb gX12_look_3.1 hl (by decide) rfl (fun ls hl => ?_)
            refine lv_iload hx hb gX12_look_3.2.1 (lv_at hl 0 rfl) ?_
            have jn66 : ∀ (locs : List Loc) (ls : Array Slot) (j66_2 : Int32) (j66_3 : Int32), th_B G Γ Γ [(46, 41), (46, 42), (46, 43), (67, 0), (66, 0), (59, 0), (64, 0), (65, 0), (46, 39), (46, 40), (63, 0), (46, 44), (46, 45), (46, 22), (46, 24), (58, 0), (46, 23), (46, 25)] H0 H12 locs → lv_has ls 6 [(0, .ref a0), (1, .int p1), (4, .int j23_4), (2, .int j66_2), (3, .int j66_3)] → F = dv_k f_X12_look_23b (f_X12_look_66 (dv G Γ H12) ((a0 : Int)) (p1.toInt) (j23_4.toInt) (j66_2.toInt) (j66_3.toInt)) → (-1) ≤ j66_2.toInt → j66_2.toInt ≤ 143 → j66_3.toInt ≤ 1000000 → W p l e ({ frames := 55, cells := 0, slots := 0, locals := 1718 } : Room) s m ([.ref a0, .int p1] : List Value).toArray below meth c H12 locs 0 0 (MQ below (th_Q (fun (v : Option Value) (H1 : Heap) => ∃ r : Int32, v = some (.int r) ∧ th_I G Γ H1 ∧ th_F G Γ [(46, 41), (46, 42), (46, 43), (67, 0), (66, 0), (59, 0), (64, 0), (65, 0), (46, 39), (46, 40), (63, 0), (46, 44), (46, 45), (46, 22), (46, 24), (58, 0), (46, 23), (46, 25)] H0 H1 ∧ th_RK a0 G Γ H1 ∧ (f_X12_look (dv G Γ H0) (a0 : Int) p1.toInt = (dv G Γ H1, r.toInt))) G) ([.ref a0, .int p1] : List Value).toArray s 0 0 (fun q => G.1.2.2 ≤ q)) (F0 m 66 ls []) := by
              intro locs ls j66_2 j66_3 hB hl hF g66_0 g66_1 g66_2
              have lj66_2 := ti_lo j66_2; have uj66_2 := ti_hi j66_2
              have lj66_3 := ti_lo j66_3; have uj66_3 := ti_hi j66_3
              replace hF := hF.trans (congrArg (dv_k f_X12_look_23b) (f_X12_look_66.eq_1 (dv G Γ H12) ((a0 : Int)) (p1.toInt) (j23_4.toInt) (j66_2.toInt) (j66_3.toInt)))
              refine tr_iinc (fun x6 => [(4, .int x6), (0, .ref a0), (1, .int p1), (2, .int j66_2), (3, .int j66_3)]) hx hb gX12_look_4.2.2.2.1 hl (k := 2) rfl (Eq.refl _) tk_1 (by omega) (by omega) (by decide) (fun _ => rfl) (fun x6 ls ex6 hl => ?_)
              replace hF := hF.trans (congrArg (dv_k f_X12_look_23b) (dv_bn (ex6.symm)))
              refine lv_goto (tgt := 23) hx hb gX12_look_4.2.2.2.2.1 (by decide) ?_
              replace hF := hF.trans (dv_kl)
              exact ih23 locs ls j66_2 j66_3 x6 hB (lv_sub hl [1, 2, 3, 4, 0] rfl) hF (by omega) (by omega) (by omega) (by omega) (by omega) (by omega)
            refine tr_if_eq (tgt := 66) hx hb gX12_look_3.2.2.1 (by decide) (Eq.refl _) (fun c48 => ?_) (fun c48 => ?_)
            · replace hF := hF.trans (congrArg (dv_k f_X12_look_23b) (if_pos c48))
              exact jn66 locs ls j23_2 j23_3 hB (lv_sub hl [1, 2, 5, 3, 4] rfl) hF (by omega) (by omega) (by omega)
            · replace hF := hF.trans (congrArg (dv_k f_X12_look_23b) (if_neg c48))
              refine lv_iload hx hb gX12_look_3.2.2.2.1 (lv_at hl 0 rfl) ?_
              refine lv_iload_n hx hb gX12_look_3.2.2.2.2.1 rfl (lv_at hl 4 rfl) ?_
              refine tr_icmp_lt (tgt := 60) hx hb gX12_look_3.2.2.2.2.2.1 (by decide) (Eq.refl _) (Eq.refl _) (fun c54 => ?_) (fun c54 => ?_)
              · replace hF := hF.trans (congrArg (dv_k f_X12_look_23b) (if_pos c54))
                refine lv_iload hx hb gX12_look_3.2.2.2.2.2.2.2 (lv_at hl 0 rfl) ?_
                refine lv_istore_n (lv' := [(3, .int x5), (5, .int x5), (0, .ref a0), (1, .int p1), (2, .int j23_2), (4, .int j23_4)]) hx hb gX12_look_4.1 rfl hl (by decide) rfl (fun ls hl => ?_)
                refine lv_iload hx hb gX12_look_4.2.1 (lv_at hl 5 rfl) ?_
                refine lv_istore_n (lv' := [(2, .int j23_4), (3, .int x5), (5, .int x5), (0, .ref a0), (1, .int p1), (4, .int j23_4)]) hx hb gX12_look_4.2.2.1 rfl hl (by decide) rfl (fun ls hl => ?_)
                exact jn66 locs ls j23_4 x5 hB (lv_sub hl [3, 4, 5, 0, 1] rfl) hF (by omega) (by omega) (by omega)
              · replace hF := hF.trans (congrArg (dv_k f_X12_look_23b) (if_neg (Int.not_lt.mpr c54)))
                refine lv_goto (tgt := 66) hx hb gX12_look_3.2.2.2.2.2.2.1 (by decide) ?_
                exact jn66 locs ls j23_2 j23_3 hB (lv_sub hl [1, 2, 5, 3, 4] rfl) hF (by omega) (by omega) (by omega)
    exact lp23 ((2147483648 : Int) - (0)).toNat locs ls (-1) 1000000 0 hB (lv_sub hl [3, 4, 2, 1, 0] rfl) (by rw [tk_m1, tk_1000000, tk_0]; exact hF) (by decide) (by decide) (by decide) (by decide) (by decide) (by have w0 := tk_0; have w1 := tk_1000000; have w2 := tk_m1; omega)
  · replace hF := hF.trans (if_neg (not_not_intro c6))
    refine lv_iconst (v := (-1)) hx hb gX12_look_0.2.2.2.2.2.1 (by decide) ?_
    exact th_iret hC hH hr hlocks rfl hB.2.1 ⟨_, rfl, hB.1, hB.2.2, hR, (hF0.symm.trans (hF.trans (by rw [tk_m1])))⟩ gX12_look_0.2.2.2.2.2.2.1

set_option maxHeartbeats 4000000 in
set_option maxRecDepth 100000 in
theorem c_X12_of (l : Launch) (G : th_G) (Γ : th_Ga) (H0 : Heap) (hI : th_I G Γ H0) (hU : dv_U Γ) (a0 : Nat) (h0 : Γ a0 = (46, 0)) (hR : th_RE a0 G Γ H0) (p1 : Int32) (p2 : Int32) : Met l yX12_of (.code yX12_of cX12_of 3 (some FieldType.int) :: th_tb) ({ frames := 52, cells := 0, slots := 0, locals := 1648 } : Room) (th_P [.ref a0, .int p1, .int p2] G H0) (th_Q (fun (v : Option Value) (H1 : Heap) => ∃ r : Int32, v = some (.int r) ∧ th_I G Γ H1 ∧ th_F G Γ [(46, 22), (46, 24), (58, 0), (46, 23), (46, 25)] H0 H1 ∧ th_RE a0 G Γ H1 ∧ (f_X12_of (dv G Γ H0) (a0 : Int) p1.toInt p2.toInt = (dv G Γ H1, r.toInt))) G) 0 0 (fun q => G.1.2.2 ≤ q) := by
  refine th_met RX12 (by decide) rfl (Nat.le_of_ble_eq_true rfl) ?_
  intro p e s m below meth c hC hH hr hlocks hnm ls hl
  have hx := hC.1
  have hb := hC.2.1
  have hB : th_B G Γ Γ [(46, 22), (46, 24), (58, 0), (46, 23), (46, 25)] H0 H0 [] := ⟨hI, va_S.rf, th_F_rf⟩
  have hl : lv_has ls 3 [(0, .ref a0), (1, .int p1), (2, .int p2)] := hl
  have lp1 := ti_lo p1; have up1 := ti_hi p1
  have lp2 := ti_lo p2; have up2 := ti_hi p2
  obtain ⟨F, hF0⟩ : ∃ F, F = f_X12_of (dv G Γ H0) ((a0 : Int)) (p1.toInt) (p2.toInt) := ⟨_, rfl⟩
  have hF := hF0.trans (f_X12_of.eq_1 (dv G Γ H0) ((a0 : Int)) (p1.toInt) (p2.toInt))
  refine lv_aload_n hx hb gX12_of_0.1 rfl (lv_at hl 0 rfl) ?_
  refine lv_iload_n hx hb gX12_of_0.2.1 rfl (lv_at hl 1 rfl) ?_
  refine th_call (th_runV (As := [.int p1]) (rest := []) hC mf_X12_isCarpet km_X12_134 im_X12_isCarpet se_X12_isCarpet (c_X12_isCarpet l G Γ H0 hB.1 hU a0 h0 p1) rfl rfl ⟨Nat.le_of_ble_eq_true rfl, Nat.le_of_ble_eq_true rfl⟩ hB.1 h0 ro_46 rfl rfl hl.1 rfl (Nat.le_of_ble_eq_true rfl) gX12_of_0.2.2.1 ⟨Nat.le_refl _, Nat.le_refl _⟩) hB.2.1 (fun v2 H2 locs hp hz hS => ?_)
  obtain ⟨x1, rfl, lx1, ux1, q2_0, q2_1, rfl⟩ := hp
  have hB := th_B_s hB hS
  replace hF := hF.trans (dv_bn2 (q2_1))
  refine W.eq (g2 := F0 m 5 ls [.int x1]) rfl ?_
  refine tr_if_ne (tgt := 10) hx hb gX12_of_0.2.2.2.1 (by decide) (Eq.refl _) (fun c5 => ?_) (fun c5 => ?_)
  · replace hF := hF.trans (if_pos c5)
    refine lv_iload_n hx hb gX12_of_0.2.2.2.2.2.2.1 rfl (lv_at hl 2 rfl) ?_
    by_cases k11_0 : p2.toInt = 0
    · replace hF := hF.trans (if_pos k11_0)
      refine lv_tableIn (off := 37) (tgt := 48) hx hb gX12_of_0.2.2.2.2.2.2.2 (by omega) (by omega) (by rw [show p2.toInt = 0 from k11_0]; decide) (by decide) ?_
      refine lv_aload_n hx hb gX12_of_1.1 rfl (lv_at hl 0 rfl) ?_
      refine th_getO (j := 2) (r2 := 48) hC cf_X12 hB.1 h0 ro_46 rfl rfl kf_X12_28 gX12_of_1.2.1 (fun b2 mb2 hb2 => ?_)
      refine lv_bipush (v := 29) hx hb gX12_of_1.2.2.1 (by decide) ?_
      refine lv_iload_n hx hb gX12_of_1.2.2.2.1 rfl (lv_at hl 1 rfl) ?_
      refine tr_iadd hx hb gX12_of_1.2.2.2.2.1 tk_29 (Eq.refl _) (by omega) (by omega) (fun x3 ex3 => ?_)
      replace hF := hF.trans (dv_bn (ex3.symm))
      refine th_ialdF hC hB.1 hb2 ro_48 rfl (Eq.refl _) (by omega) (by omega) (ek_side (by omega) (by omega)) gX12_of_1.2.2.2.2.2.1 (fun x4 mx4 lx4 ux4 => ?_)
      replace hF := hF.trans (dv_bn (dv_aldI hB.1 hU hb2 ow_48 (z := x3.toInt) mx4 (by omega)))
      exact th_iret hC hH hr hlocks rfl hB.2.1 ⟨_, rfl, hB.1, hB.2.2, hR, (hF0.symm.trans hF)⟩ gX12_of_1.2.2.2.2.2.2.1
    replace hF := hF.trans (if_neg k11_0)
    by_cases k11_1 : p2.toInt = 1
    · replace hF := hF.trans (if_pos k11_1)
      refine lv_tableIn (off := 47) (tgt := 58) hx hb gX12_of_0.2.2.2.2.2.2.2 (by omega) (by omega) (by rw [show p2.toInt = 1 from k11_1]; decide) (by decide) ?_
      refine lv_aload_n hx hb gX12_of_1.2.2.2.2.2.2.2 rfl (lv_at hl 0 rfl) ?_
      refine th_getO (j := 2) (r2 := 48) hC cf_X12 hB.1 h0 ro_46 rfl rfl kf_X12_28 gX12_of_2.1 (fun b5 mb5 hb5 => ?_)
      refine lv_bipush (v := 38) hx hb gX12_of_2.2.1 (by decide) ?_
      refine lv_iload_n hx hb gX12_of_2.2.2.1 rfl (lv_at hl 1 rfl) ?_
      refine tr_iadd hx hb gX12_of_2.2.2.2.1 tk_38 (Eq.refl _) (by omega) (by omega) (fun x6 ex6 => ?_)
      replace hF := hF.trans (dv_bn (ex6.symm))
      refine th_ialdF hC hB.1 hb5 ro_48 rfl (Eq.refl _) (by omega) (by omega) (ek_b (by omega) (by omega)) gX12_of_2.2.2.2.2.1 (fun x7 mx7 lx7 ux7 => ?_)
      replace hF := hF.trans (dv_bn (dv_aldI hB.1 hU hb5 ow_48 (z := x6.toInt) mx7 (by omega)))
      exact th_iret hC hH hr hlocks rfl hB.2.1 ⟨_, rfl, hB.1, hB.2.2, hR, (hF0.symm.trans hF)⟩ gX12_of_2.2.2.2.2.2.1
    replace hF := hF.trans (if_neg k11_1)
    by_cases k11_2 : p2.toInt = 2
    · replace hF := hF.trans (if_pos k11_2)
      refine lv_tableIn (off := 57) (tgt := 68) hx hb gX12_of_0.2.2.2.2.2.2.2 (by omega) (by omega) (by rw [show p2.toInt = 2 from k11_2]; decide) (by decide) ?_
      refine lv_aload_n hx hb gX12_of_2.2.2.2.2.2.2.1 rfl (lv_at hl 0 rfl) ?_
      refine th_getO (j := 2) (r2 := 48) hC cf_X12 hB.1 h0 ro_46 rfl rfl kf_X12_28 gX12_of_2.2.2.2.2.2.2.2 (fun b8 mb8 hb8 => ?_)
      refine lv_iconst (v := 0) hx hb gX12_of_3.1 (by decide) ?_
      refine lv_iload_n hx hb gX12_of_3.2.1 rfl (lv_at hl 1 rfl) ?_
      refine tr_iadd hx hb gX12_of_3.2.2.1 tk_0 (Eq.refl _) (by omega) (by omega) (fun x9 ex9 => ?_)
      replace hF := hF.trans (dv_bn (ex9.symm))
      refine th_ialdF hC hB.1 hb8 ro_48 rfl (Eq.refl _) (by omega) (by omega) (ek_a (by omega) (by omega)) gX12_of_3.2.2.2.1 (fun x10 mx10 lx10 ux10 => ?_)
      replace hF := hF.trans (dv_bn (dv_aldI hB.1 hU hb8 ow_48 (z := x9.toInt) mx10 (by omega)))
      exact th_iret hC hH hr hlocks rfl hB.2.1 ⟨_, rfl, hB.1, hB.2.2, hR, (hF0.symm.trans hF)⟩ gX12_of_3.2.2.2.2.1
    replace hF := hF.trans (if_neg k11_2)
    by_cases k11_3 : p2.toInt = 3
    · replace hF := hF.trans (if_pos k11_3)
      refine lv_tableIn (off := 66) (tgt := 77) hx hb gX12_of_0.2.2.2.2.2.2.2 (by omega) (by omega) (by rw [show p2.toInt = 3 from k11_3]; decide) (by decide) ?_
      refine lv_aload_n hx hb gX12_of_3.2.2.2.2.2.1 rfl (lv_at hl 0 rfl) ?_
      refine th_getO (j := 2) (r2 := 48) hC cf_X12 hB.1 h0 ro_46 rfl rfl kf_X12_28 gX12_of_3.2.2.2.2.2.2.1 (fun b11 mb11 hb11 => ?_)
      refine lv_bipush (v := 9) hx hb gX12_of_3.2.2.2.2.2.2.2 (by decide) ?_
      refine lv_iload_n hx hb gX12_of_4.1 rfl (lv_at hl 1 rfl) ?_
      refine tr_iadd hx hb gX12_of_4.2.1 tk_9 (Eq.refl _) (by omega) (by omega) (fun x12 ex12 => ?_)
      replace hF := hF.trans (dv_bn (ex12.symm))
      refine th_ialdF hC hB.1 hb11 ro_48 rfl (Eq.refl _) (by omega) (by omega) (ek_a (by omega) (by omega)) gX12_of_4.2.2.1 (fun x13 mx13 lx13 ux13 => ?_)
      replace hF := hF.trans (dv_bn (dv_aldI hB.1 hU hb11 ow_48 (z := x12.toInt) mx13 (by omega)))
      exact th_iret hC hH hr hlocks rfl hB.2.1 ⟨_, rfl, hB.1, hB.2.2, hR, (hF0.symm.trans hF)⟩ gX12_of_4.2.2.2.1
    replace hF := hF.trans (if_neg k11_3)
    by_cases k11_4 : p2.toInt = 4
    · replace hF := hF.trans (if_pos k11_4)
      refine lv_tableIn (off := 76) (tgt := 87) hx hb gX12_of_0.2.2.2.2.2.2.2 (by omega) (by omega) (by rw [show p2.toInt = 4 from k11_4]; decide) (by decide) ?_
      refine lv_aload_n hx hb gX12_of_4.2.2.2.2.1 rfl (lv_at hl 0 rfl) ?_
      refine th_getO (j := 2) (r2 := 48) hC cf_X12 hB.1 h0 ro_46 rfl rfl kf_X12_28 gX12_of_4.2.2.2.2.2.1 (fun b14 mb14 hb14 => ?_)
      refine lv_bipush (v := 18) hx hb gX12_of_4.2.2.2.2.2.2.1 (by decide) ?_
      refine lv_iload_n hx hb gX12_of_4.2.2.2.2.2.2.2 rfl (lv_at hl 1 rfl) ?_
      refine tr_iadd hx hb gX12_of_5.1 tk_18 (Eq.refl _) (by omega) (by omega) (fun x15 ex15 => ?_)
      replace hF := hF.trans (dv_bn (ex15.symm))
      refine th_ialdF hC hB.1 hb14 ro_48 rfl (Eq.refl _) (by omega) (by omega) (ek_a (by omega) (by omega)) gX12_of_5.2.1 (fun x16 mx16 lx16 ux16 => ?_)
      replace hF := hF.trans (dv_bn (dv_aldI hB.1 hU hb14 ow_48 (z := x15.toInt) mx16 (by omega)))
      exact th_iret hC hH hr hlocks rfl hB.2.1 ⟨_, rfl, hB.1, hB.2.2, hR, (hF0.symm.trans hF)⟩ gX12_of_5.2.2.1
    replace hF := hF.trans (if_neg k11_4)
    by_cases k11_5 : p2.toInt = 5
    · replace hF := hF.trans (if_pos k11_5)
      refine lv_tableIn (off := 86) (tgt := 97) hx hb gX12_of_0.2.2.2.2.2.2.2 (by omega) (by omega) (by rw [show p2.toInt = 5 from k11_5]; decide) (by decide) ?_
      refine lv_aload_n hx hb gX12_of_5.2.2.2.1 rfl (lv_at hl 0 rfl) ?_
      refine lv_iload_n hx hb gX12_of_5.2.2.2.2.1 rfl (lv_at hl 1 rfl) ?_
      refine th_call (th_runV (As := [.int p1]) (rest := []) hC mf_X12_isLaid km_X12_137 im_X12_isLaid se_X12_isLaid (c_X12_isLaid l G Γ H0 hB.1 hU a0 h0 p1 (by omega) (by omega)) rfl rfl ⟨Nat.le_of_ble_eq_true rfl, Nat.le_of_ble_eq_true rfl⟩ hB.1 h0 ro_46 rfl rfl hl.1 rfl (Nat.le_of_ble_eq_true rfl) gX12_of_5.2.2.2.2.2.1 ⟨Nat.le_refl _, Nat.le_refl _⟩) hB.2.1 (fun v99 H99 locs hp hz hS => ?_)
      obtain ⟨x17, rfl, lx17, ux17, q99_0, q99_1, q99_2, rfl⟩ := hp
      have hB := th_B_s hB hS
      replace hF := hF.trans (dv_bn2 (q99_2))
      refine W.eq (g2 := F0 m 102 ls [.int x17]) rfl ?_
      refine tr_if_eq (tgt := 113) hx hb gX12_of_5.2.2.2.2.2.2.1 (by decide) (Eq.refl _) (fun c102 => ?_) (fun c102 => ?_)
      · replace hF := hF.trans (if_pos c102)
        refine lv_iconst (v := (-1)) hx hb gX12_of_6.2.2.2.1 (by decide) ?_
        exact th_iret hC hH hr hlocks rfl hB.2.1 ⟨_, rfl, hB.1, hB.2.2, hR, (hF0.symm.trans (hF.trans (by rw [tk_m1])))⟩ gX12_of_6.2.2.2.2.1
      · replace hF := hF.trans (if_neg c102)
        refine lv_aload_n hx hb gX12_of_5.2.2.2.2.2.2.2 rfl (lv_at hl 0 rfl) ?_
        refine lv_iload_n hx hb gX12_of_6.1 rfl (lv_at hl 1 rfl) ?_
        refine th_call (th_runV (As := [.int p1]) (rest := []) hC mf_X12_wearsNow km_X12_140 im_X12_wearsNow se_X12_wearsNow (c_X12_wearsNow l G Γ H0 hB.1 hU a0 h0 hR p1 (by omega) (by omega)) rfl rfl ⟨Nat.le_of_ble_eq_true rfl, Nat.le_of_ble_eq_true rfl⟩ hB.1 h0 ro_46 rfl rfl hl.1 rfl (Nat.le_of_ble_eq_true rfl) gX12_of_6.2.1 ⟨Nat.le_refl _, Nat.le_refl _⟩) hB.2.1 (fun v107 H107 locs hp hz hS => ?_)
        obtain ⟨x18, rfl, lx18, ux18, hI1, hf, hR, z107_0⟩ := hp
        have hB := th_B_c hB hI1 hS hf (by decide)
        replace hF := hF.trans (dv_bn2 (z107_0))
        refine W.eq (g2 := F0 m 110 ls [.int x18]) rfl ?_
        refine lv_goto (tgt := 114) hx hb gX12_of_6.2.2.1 (by decide) ?_
        exact th_iret hC hH hr hlocks rfl hB.2.1 ⟨_, rfl, hB.1, hB.2.2, hR, (hF0.symm.trans hF)⟩ gX12_of_6.2.2.2.2.1
    replace hF := hF.trans (if_neg k11_5)
    refine lv_tableOut (tgt := 115) hx hb gX12_of_0.2.2.2.2.2.2.2 (by omega) (by decide) ?_
    refine lv_iconst (v := (-1)) hx hb gX12_of_6.2.2.2.2.2.1 (by decide) ?_
    exact th_iret hC hH hr hlocks rfl hB.2.1 ⟨_, rfl, hB.1, hB.2.2, hR, (hF0.symm.trans (hF.trans (by rw [tk_m1])))⟩ gX12_of_6.2.2.2.2.2.2
  · replace hF := hF.trans (if_neg (not_not_intro c5))
    refine lv_iconst (v := (-1)) hx hb gX12_of_0.2.2.2.2.1 (by decide) ?_
    exact th_iret hC hH hr hlocks rfl hB.2.1 ⟨_, rfl, hB.1, hB.2.2, hR, (hF0.symm.trans (hF.trans (by rw [tk_m1])))⟩ gX12_of_0.2.2.2.2.2.1

set_option maxHeartbeats 4000000 in
set_option maxRecDepth 100000 in
theorem c_X12_asks (l : Launch) (G : th_G) (Γ : th_Ga) (H0 : Heap) (hI : th_I G Γ H0) (hU : dv_U Γ) (a0 : Nat) (h0 : Γ a0 = (46, 0)) (hR : th_RK a0 G Γ H0) (p1 : Int32) (p2 : Int32) (p3 : Int32) (p4 : Int32) : Met l yX12_asks (.code yX12_asks cX12_asks 5 (some FieldType.int) :: th_tb) ({ frames := 53, cells := 0, slots := 0, locals := 1673 } : Room) (th_P [.ref a0, .int p1, .int p2, .int p3, .int p4] G H0) (th_Q (fun (v : Option Value) (H1 : Heap) => ∃ r : Int32, v = some (.int r) ∧ th_I G Γ H1 ∧ th_F G Γ [(46, 22), (46, 24), (58, 0), (46, 23), (46, 25), (59, 0)] H0 H1 ∧ th_RK a0 G Γ H1 ∧ (f_X12_asks (dv G Γ H0) (a0 : Int) p1.toInt p2.toInt p3.toInt p4.toInt = (dv G Γ H1, r.toInt))) G) 0 0 (fun q => G.1.2.2 ≤ q) := by
  refine th_met RX12 (by decide) rfl (Nat.le_of_ble_eq_true rfl) ?_
  intro p e s m below meth c hC hH hr hlocks hnm ls hl
  have hx := hC.1
  have hb := hC.2.1
  have hB : th_B G Γ Γ [(46, 22), (46, 24), (58, 0), (46, 23), (46, 25), (59, 0)] H0 H0 [] := ⟨hI, va_S.rf, th_F_rf⟩
  have hl : lv_has ls 5 [(0, .ref a0), (1, .int p1), (2, .int p2), (3, .int p3), (4, .int p4)] := hl
  have lp1 := ti_lo p1; have up1 := ti_hi p1
  have lp2 := ti_lo p2; have up2 := ti_hi p2
  have lp3 := ti_lo p3; have up3 := ti_hi p3
  have lp4 := ti_lo p4; have up4 := ti_hi p4
  obtain ⟨F, hF0⟩ : ∃ F, F = f_X12_asks (dv G Γ H0) ((a0 : Int)) (p1.toInt) (p2.toInt) (p3.toInt) (p4.toInt) := ⟨_, rfl⟩
  have hF := hF0.trans (f_X12_asks.eq_1 (dv G Γ H0) ((a0 : Int)) (p1.toInt) (p2.toInt) (p3.toInt) (p4.toInt))
  refine lv_aload_n hx hb gX12_asks_0.1 rfl (lv_at hl 0 rfl) ?_
  refine lv_iload_n hx hb gX12_asks_0.2.1 rfl (lv_at hl 1 rfl) ?_
  refine th_call (th_runV (As := [.int p1]) (rest := []) hC mf_X12_isCarpet km_X12_134 im_X12_isCarpet se_X12_isCarpet (c_X12_isCarpet l G Γ H0 hB.1 hU a0 h0 p1) rfl rfl ⟨Nat.le_of_ble_eq_true rfl, Nat.le_of_ble_eq_true rfl⟩ hB.1 h0 ro_46 rfl rfl hl.1 rfl (Nat.le_of_ble_eq_true rfl) gX12_asks_0.2.2.1 ⟨Nat.le_refl _, Nat.le_refl _⟩) hB.2.1 (fun v2 H2 locs hp hz hS => ?_)
  obtain ⟨x1, rfl, lx1, ux1, q2_0, q2_1, rfl⟩ := hp
  have hB := th_B_s hB hS
  replace hF := hF.trans (dv_bn2 (q2_1))
  refine W.eq (g2 := F0 m 5 ls [.int x1]) rfl ?_
  refine tr_if_eq (tgt := 22) hx hb gX12_asks_0.2.2.2.1 (by decide) (Eq.refl _) (fun c5 => ?_) (fun c5 => ?_)
  · replace hF := hF.trans (if_pos c5)
    refine lv_iconst (v := (-1)) hx hb gX12_asks_1.2.2.1 (by decide) ?_
    exact th_iret hC hH hr hlocks rfl hB.2.1 ⟨_, rfl, hB.1, hB.2.2, hR, (hF0.symm.trans (hF.trans (by rw [tk_m1])))⟩ gX12_asks_1.2.2.2.1
  · replace hF := hF.trans (if_neg c5)
    refine lv_iload_n hx hb gX12_asks_0.2.2.2.2.1 rfl (lv_at hl 2 rfl) ?_
    refine th_call (th_runS (As := [.int p2]) (rest := []) hC mf_X12_isAlong km_X12_149 st_X12_isAlong (c_X12_isAlong l G Γ H0 hB.1 hU p2) rfl rfl ⟨Nat.le_of_ble_eq_true rfl, Nat.le_of_ble_eq_true rfl⟩ rfl hl.1 rfl (Nat.le_of_ble_eq_true rfl) gX12_asks_0.2.2.2.2.2.1 ⟨Nat.le_refl _, Nat.le_refl _⟩) hB.2.1 (fun v9 H9 locs hp hz hS => ?_)
    obtain ⟨x2, rfl, lx2, ux2, q9_0, q9_1, rfl⟩ := hp
    have hB := th_B_s hB hS
    replace hF := hF.trans (dv_bn2 (q9_1))
    refine W.eq (g2 := F0 m 12 ls [.int x2]) rfl ?_
    refine tr_if_eq (tgt := 22) hx hb gX12_asks_0.2.2.2.2.2.2.1 (by decide) (Eq.refl _) (fun c12 => ?_) (fun c12 => ?_)
    · replace hF := hF.trans (if_pos c12)
      refine lv_iconst (v := (-1)) hx hb gX12_asks_1.2.2.1 (by decide) ?_
      exact th_iret hC hH hr hlocks rfl hB.2.1 ⟨_, rfl, hB.1, hB.2.2, hR, (hF0.symm.trans (hF.trans (by rw [tk_m1])))⟩ gX12_asks_1.2.2.2.1
    · replace hF := hF.trans (if_neg c12)
      refine lv_iload_n hx hb gX12_asks_0.2.2.2.2.2.2.2 rfl (lv_at hl 3 rfl) ?_
      refine th_call (th_runS (As := [.int p3]) (rest := []) hC mf_X12_isAlong km_X12_149 st_X12_isAlong (c_X12_isAlong l G Γ H0 hB.1 hU p3) rfl rfl ⟨Nat.le_of_ble_eq_true rfl, Nat.le_of_ble_eq_true rfl⟩ rfl hl.1 rfl (Nat.le_of_ble_eq_true rfl) gX12_asks_1.1 ⟨Nat.le_refl _, Nat.le_refl _⟩) hB.2.1 (fun v16 H16 locs hp hz hS => ?_)
      obtain ⟨x3, rfl, lx3, ux3, q16_0, q16_1, rfl⟩ := hp
      have hB := th_B_s hB hS
      replace hF := hF.trans (dv_bn2 (q16_1))
      refine W.eq (g2 := F0 m 19 ls [.int x3]) rfl ?_
      refine tr_if_ne (tgt := 24) hx hb gX12_asks_1.2.1 (by decide) (Eq.refl _) (fun c19 => ?_) (fun c19 => ?_)
      · replace hF := hF.trans (if_pos c19)
        refine lv_iload hx hb gX12_asks_1.2.2.2.2.1 (lv_at hl 4 rfl) ?_
        by_cases k26_0 : p4.toInt = 0
        · replace hF := hF.trans (if_pos k26_0)
          refine lv_tableIn (off := 26) (tgt := 52) hx hb gX12_asks_1.2.2.2.2.2.1 (by omega) (by omega) (by rw [show p4.toInt = 0 from k26_0]; decide) (by decide) ?_
          refine lv_aload_n hx hb gX12_asks_1.2.2.2.2.2.2.1 rfl (lv_at hl 0 rfl) ?_
          refine lv_iload_n hx hb gX12_asks_1.2.2.2.2.2.2.2 rfl (lv_at hl 1 rfl) ?_
          refine lv_iload_n hx hb gX12_asks_2.1 rfl (lv_at hl 2 rfl) ?_
          refine lv_iload_n hx hb gX12_asks_2.2.1 rfl (lv_at hl 3 rfl) ?_
          refine th_call (th_runV (As := [.int p1, .int p2, .int p3]) (rest := []) hC mf_X12_costsAt km_X12_152 im_X12_costsAt se_X12_costsAt (c_X12_costsAt l G Γ H0 hB.1 hU a0 h0 (th_KE hR) p1 (by omega) (by omega) p2 p3) rfl rfl ⟨Nat.le_of_ble_eq_true rfl, Nat.le_of_ble_eq_true rfl⟩ hB.1 h0 ro_46 rfl rfl hl.1 rfl (Nat.le_of_ble_eq_true rfl) gX12_asks_2.2.2.1 ⟨Nat.le_refl _, Nat.le_refl _⟩) hB.2.1 (fun v56 H56 locs hp hz hS => ?_)
          have hRD := hR
          obtain ⟨x4, rfl, lx4, ux4, hI1, hf, hR, z56_0⟩ := hp
          have hR := th_RK_c hR.1 hRD hI1 h0 hf (by decide)
          have hB := th_B_c hB hI1 hS hf (by decide)
          replace hF := hF.trans (dv_bn2 (z56_0))
          refine W.eq (g2 := F0 m 59 ls [.int x4]) rfl ?_
          exact th_iret hC hH hr hlocks rfl hB.2.1 ⟨_, rfl, hB.1, hB.2.2, hR, (hF0.symm.trans hF)⟩ gX12_asks_2.2.2.2.1
        replace hF := hF.trans (if_neg k26_0)
        by_cases k26_1 : p4.toInt = 1
        · replace hF := hF.trans (if_pos k26_1)
          refine lv_tableIn (off := 34) (tgt := 60) hx hb gX12_asks_1.2.2.2.2.2.1 (by omega) (by omega) (by rw [show p4.toInt = 1 from k26_1]; decide) (by decide) ?_
          refine lv_aload_n hx hb gX12_asks_2.2.2.2.2.1 rfl (lv_at hl 0 rfl) ?_
          refine lv_iload_n hx hb gX12_asks_2.2.2.2.2.2.1 rfl (lv_at hl 1 rfl) ?_
          refine lv_iload_n hx hb gX12_asks_2.2.2.2.2.2.2.1 rfl (lv_at hl 2 rfl) ?_
          refine lv_iload_n hx hb gX12_asks_2.2.2.2.2.2.2.2 rfl (lv_at hl 3 rfl) ?_
          refine th_call (th_runV (As := [.int p1, .int p2, .int p3]) (rest := []) hC mf_X12_isBarred km_X12_156 im_X12_isBarred se_X12_isBarred (c_X12_isBarred l G Γ H0 hB.1 hU a0 h0 (th_KE hR) p1 (by omega) (by omega) p2 p3) rfl rfl ⟨Nat.le_of_ble_eq_true rfl, Nat.le_of_ble_eq_true rfl⟩ hB.1 h0 ro_46 rfl rfl hl.1 rfl (Nat.le_of_ble_eq_true rfl) gX12_asks_3.1 ⟨Nat.le_refl _, Nat.le_refl _⟩) hB.2.1 (fun v64 H64 locs hp hz hS => ?_)
          have hRD := hR
          obtain ⟨x5, rfl, lx5, ux5, hI1, hf, hR, z64_0⟩ := hp
          have hR := th_RK_c hR.1 hRD hI1 h0 hf (by decide)
          have hB := th_B_c hB hI1 hS hf (by decide)
          replace hF := hF.trans (dv_bn2 (z64_0))
          refine W.eq (g2 := F0 m 67 ls [.int x5]) rfl ?_
          refine tr_if_eq (tgt := 74) hx hb gX12_asks_3.2.1 (by decide) (Eq.refl _) (fun c67 => ?_) (fun c67 => ?_)
          · replace hF := hF.trans (if_pos c67)
            refine lv_iconst (v := 0) hx hb gX12_asks_3.2.2.2.2.1 (by decide) ?_
            exact th_iret hC hH hr hlocks rfl hB.2.1 ⟨_, rfl, hB.1, hB.2.2, hR, (hF0.symm.trans (hF.trans (by rw [tk_0])))⟩ gX12_asks_3.2.2.2.2.2.1
          · replace hF := hF.trans (if_neg c67)
            refine lv_iconst (v := 1) hx hb gX12_asks_3.2.2.1 (by decide) ?_
            refine lv_goto (tgt := 75) hx hb gX12_asks_3.2.2.2.1 (by decide) ?_
            exact th_iret hC hH hr hlocks rfl hB.2.1 ⟨_, rfl, hB.1, hB.2.2, hR, (hF0.symm.trans (hF.trans (by rw [tk_1])))⟩ gX12_asks_3.2.2.2.2.2.1
        replace hF := hF.trans (if_neg k26_1)
        by_cases k26_2 : p4.toInt = 2
        · replace hF := hF.trans (if_pos k26_2)
          refine lv_tableIn (off := 50) (tgt := 76) hx hb gX12_asks_1.2.2.2.2.2.1 (by omega) (by omega) (by rw [show p4.toInt = 2 from k26_2]; decide) (by decide) ?_
          refine lv_aload_n hx hb gX12_asks_3.2.2.2.2.2.2.1 rfl (lv_at hl 0 rfl) ?_
          refine lv_iload_n hx hb gX12_asks_3.2.2.2.2.2.2.2 rfl (lv_at hl 1 rfl) ?_
          refine lv_iload_n hx hb gX12_asks_4.1 rfl (lv_at hl 2 rfl) ?_
          refine lv_iload_n hx hb gX12_asks_4.2.1 rfl (lv_at hl 3 rfl) ?_
          refine th_call (th_runV (As := [.int p1, .int p2, .int p3]) (rest := []) hC mf_X12_canLay km_X12_159 im_X12_canLay se_X12_canLay (c_X12_canLay l G Γ H0 hB.1 hU a0 h0 hR p1 (by omega) (by omega) p2 (by omega) (by omega) p3 (by omega) (by omega) (by omega)) rfl rfl ⟨Nat.le_of_ble_eq_true rfl, Nat.le_of_ble_eq_true rfl⟩ hB.1 h0 ro_46 rfl rfl hl.1 rfl (Nat.le_of_ble_eq_true rfl) gX12_asks_4.2.2.1 ⟨Nat.le_refl _, Nat.le_refl _⟩) hB.2.1 (fun v80 H80 locs hp hz hS => ?_)
          obtain ⟨x6, rfl, lx6, ux6, q80_0, hI1, hf, hR, z80_0⟩ := hp
          have hB := th_B_c hB hI1 hS hf (by decide)
          replace hF := hF.trans (dv_bn2 (z80_0))
          refine W.eq (g2 := F0 m 83 ls [.int x6]) rfl ?_
          refine tr_if_eq (tgt := 90) hx hb gX12_asks_4.2.2.2.1 (by decide) (Eq.refl _) (fun c83 => ?_) (fun c83 => ?_)
          · replace hF := hF.trans (if_pos c83)
            refine lv_iconst (v := 0) hx hb gX12_asks_4.2.2.2.2.2.2.1 (by decide) ?_
            exact th_iret hC hH hr hlocks rfl hB.2.1 ⟨_, rfl, hB.1, hB.2.2, hR, (hF0.symm.trans (hF.trans (by rw [tk_0])))⟩ gX12_asks_4.2.2.2.2.2.2.2
          · replace hF := hF.trans (if_neg c83)
            refine lv_iconst (v := 1) hx hb gX12_asks_4.2.2.2.2.1 (by decide) ?_
            refine lv_goto (tgt := 91) hx hb gX12_asks_4.2.2.2.2.2.1 (by decide) ?_
            exact th_iret hC hH hr hlocks rfl hB.2.1 ⟨_, rfl, hB.1, hB.2.2, hR, (hF0.symm.trans (hF.trans (by rw [tk_1])))⟩ gX12_asks_4.2.2.2.2.2.2.2
        replace hF := hF.trans (if_neg k26_2)
        refine lv_tableOut (tgt := 92) hx hb gX12_asks_1.2.2.2.2.2.1 (by omega) (by decide) ?_
        refine lv_iconst (v := (-1)) hx hb gX12_asks_5.1 (by decide) ?_
        exact th_iret hC hH hr hlocks rfl hB.2.1 ⟨_, rfl, hB.1, hB.2.2, hR, (hF0.symm.trans (hF.trans (by rw [tk_m1])))⟩ gX12_asks_5.2
      · replace hF := hF.trans (if_neg (not_not_intro c19))
        refine lv_iconst (v := (-1)) hx hb gX12_asks_1.2.2.1 (by decide) ?_
        exact th_iret hC hH hr hlocks rfl hB.2.1 ⟨_, rfl, hB.1, hB.2.2, hR, (hF0.symm.trans (hF.trans (by rw [tk_m1])))⟩ gX12_asks_1.2.2.2.1

set_option maxHeartbeats 4000000 in
set_option maxRecDepth 100000 in
theorem c_X12_bare (l : Launch) (G : th_G) (Γ : th_Ga) (H0 : Heap) (hI : th_I G Γ H0) (hU : dv_U Γ) (a0 : Nat) (h0 : Γ a0 = (46, 0)) (hR : th_RK a0 G Γ H0) (p1 : Int32) : Met l yX12_bare (.code yX12_bare cX12_bare 3 (some FieldType.int) :: th_tb) ({ frames := 2, cells := 0, slots := 0, locals := 45 } : Room) (th_P [.ref a0, .int p1] G H0) (th_Q (fun (v : Option Value) (H1 : Heap) => ∃ r : Int32, v = some (.int r) ∧ th_I G Γ H1 ∧ th_F G Γ [(59, 0)] H0 H1 ∧ th_RK a0 G Γ H1 ∧ (f_X12_bare (dv G Γ H0) (a0 : Int) p1.toInt = (dv G Γ H1, r.toInt))) G) 0 0 (fun q => G.1.2.2 ≤ q) := by
  refine th_met RX12 (by decide) rfl (Nat.le_of_ble_eq_true rfl) ?_
  intro p e s m below meth c hC hH hr hlocks hnm ls hl
  have hx := hC.1
  have hb := hC.2.1
  have hB : th_B G Γ Γ [(59, 0)] H0 H0 [] := ⟨hI, va_S.rf, th_F_rf⟩
  have hl : lv_has ls 3 [(0, .ref a0), (1, .int p1)] := hl
  have lp1 := ti_lo p1; have up1 := ti_hi p1
  obtain ⟨F, hF0⟩ : ∃ F, F = f_X12_bare (dv G Γ H0) ((a0 : Int)) (p1.toInt) := ⟨_, rfl⟩
  have hF := hF0.trans (f_X12_bare.eq_1 (dv G Γ H0) ((a0 : Int)) (p1.toInt))
  refine lv_iload_n hx hb gX12_bare_0.1 rfl (lv_at hl 1 rfl) ?_
  refine lv_iconst (v := 0) hx hb gX12_bare_0.2.1 (by decide) ?_
  refine lv_iconst (v := 2) hx hb gX12_bare_0.2.2.1 (by decide) ?_
  refine th_call (th_runS (As := [.int p1, .int 0, .int 2]) (rest := []) hC mf_X12_lies km_X12_18 st_X12_lies (c_X12_lies l G Γ H0 hB.1 hU p1 0 2) rfl rfl ⟨Nat.le_of_ble_eq_true rfl, Nat.le_of_ble_eq_true rfl⟩ rfl hl.1 rfl (Nat.le_of_ble_eq_true rfl) gX12_bare_0.2.2.2.1 ⟨Nat.le_refl _, Nat.le_refl _⟩) hB.2.1 (fun v3 H3 locs hp hz hS => ?_)
  obtain ⟨x1, rfl, lx1, ux1, q3_0, q3_1, q3_2, rfl⟩ := hp
  have hB := th_B_s hB hS
  have w3_1 := tk_0
  have w3_2 := tk_2
  have zf3 := q3_2
  rw [tk_0, tk_2] at zf3
  replace hF := hF.trans (dv_bn2 (zf3))
  refine W.eq (g2 := F0 m 6 ls [.int x1]) rfl ?_
  refine tr_if_ne (tgt := 11) hx hb gX12_bare_0.2.2.2.2.1 (by decide) (Eq.refl _) (fun c6 => ?_) (fun c6 => ?_)
  · replace hF := hF.trans (if_pos c6)
    refine lv_iload_n hx hb gX12_bare_0.2.2.2.2.2.2.2 rfl (lv_at hl 1 rfl) ?_
    refine tr_if_ne (tgt := 20) hx hb gX12_bare_1.1 (by decide) (Eq.refl _) (fun c12 => ?_) (fun c12 => ?_)
    · replace hF := hF.trans (if_pos c12)
      refine lv_aload_n hx hb gX12_bare_1.2.2.2.2.1 rfl (lv_at hl 0 rfl) ?_
      refine th_call (th_runV (As := []) (rest := []) hC mf_X12_laysCovered km_X12_351 im_X12_laysCovered se_X12_laysCovered (c_X12_laysCovered l G Γ H0 hB.1 hU a0 h0 hR) rfl rfl ⟨Nat.le_of_ble_eq_true rfl, Nat.le_of_ble_eq_true rfl⟩ hB.1 h0 ro_46 rfl rfl hl.1 rfl (Nat.le_of_ble_eq_true rfl) gX12_bare_1.2.2.2.2.2.1 ⟨Nat.le_refl _, Nat.le_refl _⟩) hB.2.1 (fun v21 H21 locs hp hz hS => ?_)
      obtain ⟨rfl, hI1, hf, hR, z21_0, z21_1⟩ := hp
      have hB := th_B_c hB hI1 hS hf (by decide)
      replace hF := hF.trans (dv_bn2 (z21_1))
      refine W.eq (g2 := F0 m 24 ls []) rfl ?_
      refine lv_aload_n hx hb gX12_bare_1.2.2.2.2.2.2.1 rfl (lv_at hl 0 rfl) ?_
      refine lv_aload_n hx hb gX12_bare_1.2.2.2.2.2.2.2 rfl (lv_at hl 0 rfl) ?_
      refine th_getO (j := 2) (r2 := 48) hC cf_X12 hB.1 h0 ro_46 rfl rfl kf_X12_28 gX12_bare_2.1 (fun b2 mb2 hb2 => ?_)
      have sb2 := (th_F_o hB.2.2 h0 ro_46 (j := 2) (by decide) (by decide)).symm.trans mb2
      refine lv_bipush (v := 67) hx hb gX12_bare_2.2.1 (by decide) ?_
      refine th_ialdF hC hB.1 hb2 ro_48 rfl tk_67 (by omega) (by omega) (ek_hall (by omega) (by omega)) gX12_bare_2.2.2.1 (fun x3 mx3 lx3 ux3 => ?_)
      replace hF := hF.trans (dv_bn (dv_aldI hB.1 hU hb2 ow_48 (z := 67) mx3 (by omega)))
      refine lv_aload_n hx hb gX12_bare_2.2.2.2.1 rfl (lv_at hl 0 rfl) ?_
      refine th_getK hC cf_X12 hB.1 h0 ro_46 rfl (j := 2) (by decide) mb2 kf_X12_28 gX12_bare_2.2.2.2.2.1 ?_
      refine lv_bipush (v := 68) hx hb gX12_bare_2.2.2.2.2.2.1 (by decide) ?_
      refine th_ialdF hC hB.1 hb2 ro_48 rfl tk_68 (by omega) (by omega) (ek_hall (by omega) (by omega)) gX12_bare_2.2.2.2.2.2.2.1 (fun x4 mx4 lx4 ux4 => ?_)
      replace hF := hF.trans (dv_bn (dv_aldI hB.1 hU hb2 ow_48 (z := 68) mx4 (by omega)))
      refine th_call (th_runV (As := [.int x3, .int x4]) (rest := []) hC mf_X12_firstBare km_X12_354 im_X12_firstBare se_X12_firstBare (c_X12_firstBare l G Γ H21 hB.1 hU a0 h0 x3 (by omega) (by omega) x4 (by omega) (by omega)) rfl rfl ⟨Nat.le_of_ble_eq_true rfl, Nat.le_of_ble_eq_true rfl⟩ hB.1 h0 ro_46 rfl rfl hl.1 rfl (Nat.le_of_ble_eq_true rfl) gX12_bare_2.2.2.2.2.2.2.2 ⟨Nat.le_refl _, Nat.le_refl _⟩) hB.2.1 (fun v39 H39 locs hp hz hS => ?_)
      obtain ⟨x5, rfl, lx5, ux5, q39_0, rfl⟩ := hp
      have hB := th_B_s hB hS
      replace hF := hF.trans (dv_bn2 (q39_0))
      refine W.eq (g2 := F0 m 42 ls [.int x5]) rfl ?_
      refine lv_istore_n (lv' := [(2, .int x5), (0, .ref a0), (1, .int p1)]) hx hb gX12_bare_3.1 rfl hl (by decide) rfl (fun ls hl => ?_)
      refine lv_iload_n hx hb gX12_bare_3.2.1 rfl (lv_at hl 0 rfl) ?_
      refine lv_iconst (v := (-1)) hx hb gX12_bare_3.2.2.1 (by decide) ?_
      refine tr_icmp_ne (tgt := 52) hx hb gX12_bare_3.2.2.2.1 (by decide) (Eq.refl _) tk_m1 (fun c45 => ?_) (fun c45 => ?_)
      · replace hF := hF.trans (if_pos c45)
        refine lv_iload_n hx hb gX12_bare_3.2.2.2.2.2.2.1 rfl (lv_at hl 2 rfl) ?_
        refine lv_iconst (v := 1) hx hb gX12_bare_3.2.2.2.2.2.2.2 (by decide) ?_
        refine tr_icmp_ne (tgt := 64) hx hb gX12_bare_4.1 (by decide) (Eq.refl _) tk_1 (fun c54 => ?_) (fun c54 => ?_)
        · replace hF := hF.trans (if_pos c54)
          refine lv_iload_n hx hb gX12_bare_4.2.2.2.2.2.1 rfl (lv_at hl 0 rfl) ?_
          refine lv_bipush (v := 12) hx hb gX12_bare_4.2.2.2.2.2.2.1 (by decide) ?_
          refine tr_idiv hx hb gX12_bare_4.2.2.2.2.2.2.2 (Eq.refl _) tk_12 (by omega) (by omega) (fun x6 ex6 => ?_)
          replace hF := hF.trans (dv_bn (ex6.symm))
          exact th_iret hC hH hr hlocks rfl hB.2.1 ⟨_, rfl, hB.1, hB.2.2, hR, (hF0.symm.trans hF)⟩ gX12_bare_5
        · replace hF := hF.trans (if_neg (not_not_intro c54))
          refine lv_iload_n hx hb gX12_bare_4.2.1 rfl (lv_at hl 0 rfl) ?_
          refine lv_bipush (v := 12) hx hb gX12_bare_4.2.2.1 (by decide) ?_
          refine tr_irem hx hb gX12_bare_4.2.2.2.1 (Eq.refl _) tk_12 (by omega) (by omega) (fun x7 ex7 => ?_)
          replace hF := hF.trans (dv_bn (ex7.symm))
          refine lv_goto (tgt := 68) hx hb gX12_bare_4.2.2.2.2.1 (by decide) ?_
          exact th_iret hC hH hr hlocks rfl hB.2.1 ⟨_, rfl, hB.1, hB.2.2, hR, (hF0.symm.trans hF)⟩ gX12_bare_5
      · replace hF := hF.trans (if_neg (not_not_intro c45))
        refine lv_iconst (v := (-1)) hx hb gX12_bare_3.2.2.2.2.1 (by decide) ?_
        refine lv_goto (tgt := 68) hx hb gX12_bare_3.2.2.2.2.2.1 (by decide) ?_
        exact th_iret hC hH hr hlocks rfl hB.2.1 ⟨_, rfl, hB.1, hB.2.2, hR, (hF0.symm.trans (hF.trans (by rw [tk_m1])))⟩ gX12_bare_5
    · replace hF := hF.trans (if_neg (not_not_intro c12))
      refine lv_aload_n hx hb gX12_bare_1.2.1 rfl (lv_at hl 0 rfl) ?_
      refine th_call (th_runV (As := []) (rest := []) hC mf_X12_bareMany km_X12_323 im_X12_bareMany se_X12_bareMany (c_X12_bareMany l G Γ H0 hB.1 hU a0 h0) rfl rfl ⟨Nat.le_of_ble_eq_true rfl, Nat.le_of_ble_eq_true rfl⟩ hB.1 h0 ro_46 rfl rfl hl.1 rfl (Nat.le_of_ble_eq_true rfl) gX12_bare_1.2.2.1 ⟨Nat.le_refl _, Nat.le_refl _⟩) hB.2.1 (fun v16 H16 locs hp hz hS => ?_)
      obtain ⟨x8, rfl, lx8, ux8, q16_0, q16_1, rfl⟩ := hp
      have hB := th_B_s hB hS
      replace hF := hF.trans (dv_bn2 (q16_1))
      refine W.eq (g2 := F0 m 19 ls [.int x8]) rfl ?_
      exact th_iret hC hH hr hlocks rfl hB.2.1 ⟨_, rfl, hB.1, hB.2.2, hR, (hF0.symm.trans hF)⟩ gX12_bare_1.2.2.2.1
  · replace hF := hF.trans (if_neg (not_not_intro c6))
    refine lv_iconst (v := (-1)) hx hb gX12_bare_0.2.2.2.2.2.1 (by decide) ?_
    exact th_iret hC hH hr hlocks rfl hB.2.1 ⟨_, rfl, hB.1, hB.2.2, hR, (hF0.symm.trans (hF.trans (by rw [tk_m1])))⟩ gX12_bare_0.2.2.2.2.2.2.1

set_option maxHeartbeats 4000000 in
set_option maxRecDepth 100000 in
theorem c_X12_fitting (l : Launch) (G : th_G) (Γ : th_Ga) (H0 : Heap) (hI : th_I G Γ H0) (hU : dv_U Γ) (a0 : Nat) (h0 : Γ a0 = (46, 0)) (hR : th_RK a0 G Γ H0) (p1 : Int32) : Met l yX12_fitting (.code yX12_fitting cX12_fitting 5 (some FieldType.int) :: th_tb) ({ frames := 2, cells := 0, slots := 0, locals := 45 } : Room) (th_P [.ref a0, .int p1] G H0) (th_Q (fun (v : Option Value) (H1 : Heap) => ∃ r : Int32, v = some (.int r) ∧ th_I G Γ H1 ∧ th_F G Γ [(59, 0)] H0 H1 ∧ th_RK a0 G Γ H1 ∧ (f_X12_fitting (dv G Γ H0) (a0 : Int) p1.toInt = (dv G Γ H1, r.toInt))) G) 0 0 (fun q => G.1.2.2 ≤ q) := by
  refine th_met RX12 (by decide) rfl (Nat.le_of_ble_eq_true rfl) ?_
  intro p e s m below meth c hC hH hr hlocks hnm ls hl
  have hx := hC.1
  have hb := hC.2.1
  have hB : th_B G Γ Γ [(59, 0)] H0 H0 [] := ⟨hI, va_S.rf, th_F_rf⟩
  have hl : lv_has ls 5 [(0, .ref a0), (1, .int p1)] := hl
  have lp1 := ti_lo p1; have up1 := ti_hi p1
  obtain ⟨F, hF0⟩ : ∃ F, F = f_X12_fitting (dv G Γ H0) ((a0 : Int)) (p1.toInt) := ⟨_, rfl⟩
  have hF := hF0.trans (f_X12_fitting.eq_1 (dv G Γ H0) ((a0 : Int)) (p1.toInt))
  refine lv_iload_n hx hb gX12_fitting_0.1 rfl (lv_at hl 1 rfl) ?_
  refine th_call (th_runS (As := [.int p1]) (rest := []) hC mf_X12_isSide km_X12_119 st_X12_isSide (c_X12_isSide l G Γ H0 hB.1 hU p1) rfl rfl ⟨Nat.le_of_ble_eq_true rfl, Nat.le_of_ble_eq_true rfl⟩ rfl hl.1 rfl (Nat.le_of_ble_eq_true rfl) gX12_fitting_0.2.1 ⟨Nat.le_refl _, Nat.le_refl _⟩) hB.2.1 (fun v1 H1 locs hp hz hS => ?_)
  obtain ⟨x1, rfl, lx1, ux1, q1_0, q1_1, rfl⟩ := hp
  have hB := th_B_s hB hS
  replace hF := hF.trans (dv_bn2 (q1_1))
  refine W.eq (g2 := F0 m 4 ls [.int x1]) rfl ?_
  refine tr_if_ne (tgt := 9) hx hb gX12_fitting_0.2.2.1 (by decide) (Eq.refl _) (fun c4 => ?_) (fun c4 => ?_)
  · replace hF := hF.trans (if_pos c4)
    refine lv_aload_n hx hb gX12_fitting_0.2.2.2.2.2.1 rfl (lv_at hl 0 rfl) ?_
    refine th_call (th_runV (As := []) (rest := []) hC mf_X12_laysCovered km_X12_351 im_X12_laysCovered se_X12_laysCovered (c_X12_laysCovered l G Γ H0 hB.1 hU a0 h0 hR) rfl rfl ⟨Nat.le_of_ble_eq_true rfl, Nat.le_of_ble_eq_true rfl⟩ hB.1 h0 ro_46 rfl rfl hl.1 rfl (Nat.le_of_ble_eq_true rfl) gX12_fitting_0.2.2.2.2.2.2.1 ⟨Nat.le_refl _, Nat.le_refl _⟩) hB.2.1 (fun v10 H10 locs hp hz hS => ?_)
    obtain ⟨rfl, hI1, hf, hR, z10_0, z10_1⟩ := hp
    have hB := th_B_c hB hI1 hS hf (by decide)
    replace hF := hF.trans (dv_bn2 (z10_1))
    refine W.eq (g2 := F0 m 13 ls []) rfl ?_
    refine lv_iconst (v := 0) hx hb gX12_fitting_0.2.2.2.2.2.2.2 (by decide) ?_
    refine lv_istore_n (lv' := [(2, .int 0), (0, .ref a0), (1, .int p1)]) hx hb gX12_fitting_1.1 rfl hl (by decide) rfl (fun ls hl => ?_)
    refine lv_iconst (v := 0) hx hb gX12_fitting_1.2.1 (by decide) ?_
    refine lv_istore_n (lv' := [(3, .int 0), (2, .int 0), (0, .ref a0), (1, .int p1)]) hx hb gX12_fitting_1.2.2.1 rfl hl (by decide) rfl (fun ls hl => ?_)
    have lp17 : ∀ (n17 : Nat) (locs : List Loc) (ls : Array Slot) (j17_2 : Int32) (j17_3 : Int32), th_B G Γ Γ [(59, 0)] H0 H10 locs → lv_has ls 5 [(0, .ref a0), (1, .int p1), (2, .int j17_2), (3, .int j17_3)] → F = dv_lp f_X12_fitting_17b (dv G Γ H10, (a0 : Int), p1.toInt, j17_2.toInt, j17_3.toInt) → 0 ≤ j17_3.toInt → j17_3.toInt ≤ 12 → (2147483648 : Int) - j17_3.toInt ≤ (n17 : Int) → W p l e ({ frames := 2, cells := 0, slots := 0, locals := 45 } : Room) s m ([.ref a0, .int p1] : List Value).toArray below meth c H10 locs 0 0 (MQ below (th_Q (fun (v : Option Value) (H1 : Heap) => ∃ r : Int32, v = some (.int r) ∧ th_I G Γ H1 ∧ th_F G Γ [(59, 0)] H0 H1 ∧ th_RK a0 G Γ H1 ∧ (f_X12_fitting (dv G Γ H0) (a0 : Int) p1.toInt = (dv G Γ H1, r.toInt))) G) ([.ref a0, .int p1] : List Value).toArray s 0 0 (fun q => G.1.2.2 ≤ q)) (F0 m 17 ls []) := by
      intro n17
      induction n17 with
      | zero => intro locs ls j17_2 j17_3 hB hl hF g17_0 g17_1 hm17; exact absurd hm17 (by have := ti_hi j17_3; omega)
      | succ n17 ih17 =>
        intro locs ls j17_2 j17_3 hB hl hF g17_0 g17_1 hm17
        have lj17_2 := ti_lo j17_2; have uj17_2 := ti_hi j17_2
        have lj17_3 := ti_lo j17_3; have uj17_3 := ti_hi j17_3
        have hm17 : (2147483648 : Int) - j17_3.toInt ≤ (n17 : Int) + 1 := by omega
        replace hF := hF.trans (dv_lp_eq)
        replace hF := hF.trans (congrArg (dv_k f_X12_fitting_17b) (f_X12_fitting_17c.eq_1 (dv G Γ H10) ((a0 : Int)) (p1.toInt) (j17_2.toInt) (j17_3.toInt)))
        refine lv_iload_n hx hb gX12_fitting_1.2.2.2.1 rfl (lv_at hl 3 rfl) ?_
        refine lv_aload_n hx hb gX12_fitting_1.2.2.2.2.1 rfl (lv_at hl 0 rfl) ?_
        refine th_getO (j := 2) (r2 := 48) hC cf_X12 hB.1 h0 ro_46 rfl rfl kf_X12_28 gX12_fitting_1.2.2.2.2.2.1 (fun b2 mb2 hb2 => ?_)
        have sb2 := (th_F_o hB.2.2 h0 ro_46 (j := 2) (by decide) (by decide)).symm.trans mb2
        refine lv_bipush (v := 67) hx hb gX12_fitting_1.2.2.2.2.2.2.1 (by decide) ?_
        refine th_ialdF hC hB.1 hb2 ro_48 rfl tk_67 (by omega) (by omega) (ek_hall (by omega) (by omega)) gX12_fitting_1.2.2.2.2.2.2.2 (fun x3 mx3 lx3 ux3 => ?_)
        replace hF := hF.trans (congrArg (dv_k f_X12_fitting_17b) (dv_bn (dv_aldI hB.1 hU hb2 ow_48 (z := 67) mx3 (by omega))))
        refine tr_icmp_ge (tgt := 88) hx hb gX12_fitting_2.1 (by decide) (Eq.refl _) (Eq.refl _) (fun c25 => ?_) (fun c25 => ?_)
        · replace hF := hF.trans (congrArg (dv_k f_X12_fitting_17b) (if_pos c25))
          refine lv_iload_n hx hb gX12_fitting_6.2.1 rfl (lv_at hl 2 rfl) ?_
          replace hF := hF.trans (dv_kr)
          exact th_iret hC hH hr hlocks rfl hB.2.1 ⟨_, rfl, hB.1, hB.2.2, hR, (hF0.symm.trans hF)⟩ gX12_fitting_6.2.2
        · replace hF := hF.trans (congrArg (dv_k f_X12_fitting_17b) (if_neg (Int.not_le.mpr c25)))
          refine lv_iconst (v := 0) hx hb gX12_fitting_2.2.1 (by decide) ?_
          refine lv_istore (lv' := [(4, .int 0), (0, .ref a0), (1, .int p1), (2, .int j17_2), (3, .int j17_3)]) hx hb gX12_fitting_2.2.2.1 hl (by decide) rfl (fun ls hl => ?_)
          have lp31 : ∀ (n31 : Nat) (locs : List Loc) (ls : Array Slot) (j31_2 : Int32) (j31_4 : Int32), th_B G Γ Γ [(59, 0)] H0 H10 locs → lv_has ls 5 [(0, .ref a0), (1, .int p1), (3, .int j17_3), (2, .int j31_2), (4, .int j31_4)] → F = dv_k f_X12_fitting_17b (dv_lp f_X12_fitting_31b (dv G Γ H10, (a0 : Int), p1.toInt, j17_3.toInt, j31_2.toInt, j31_4.toInt)) → 0 ≤ j31_4.toInt → j31_4.toInt ≤ 12 → (2147483648 : Int) - j31_4.toInt ≤ (n31 : Int) → W p l e ({ frames := 2, cells := 0, slots := 0, locals := 45 } : Room) s m ([.ref a0, .int p1] : List Value).toArray below meth c H10 locs 0 0 (MQ below (th_Q (fun (v : Option Value) (H1 : Heap) => ∃ r : Int32, v = some (.int r) ∧ th_I G Γ H1 ∧ th_F G Γ [(59, 0)] H0 H1 ∧ th_RK a0 G Γ H1 ∧ (f_X12_fitting (dv G Γ H0) (a0 : Int) p1.toInt = (dv G Γ H1, r.toInt))) G) ([.ref a0, .int p1] : List Value).toArray s 0 0 (fun q => G.1.2.2 ≤ q)) (F0 m 31 ls []) := by
            intro n31
            induction n31 with
            | zero => intro locs ls j31_2 j31_4 hB hl hF g31_0 g31_1 hm31; exact absurd hm31 (by have := ti_hi j31_4; omega)
            | succ n31 ih31 =>
              intro locs ls j31_2 j31_4 hB hl hF g31_0 g31_1 hm31
              have lj31_2 := ti_lo j31_2; have uj31_2 := ti_hi j31_2
              have lj31_4 := ti_lo j31_4; have uj31_4 := ti_hi j31_4
              have hm31 : (2147483648 : Int) - j31_4.toInt ≤ (n31 : Int) + 1 := by omega
              replace hF := hF.trans (congrArg (dv_k f_X12_fitting_17b) (dv_lp_eq))
              replace hF := hF.trans (congrArg (dv_k f_X12_fitting_17b) (congrArg (dv_k f_X12_fitting_31b) (f_X12_fitting_31c.eq_1 (dv G Γ H10) ((a0 : Int)) (p1.toInt) (j17_3.toInt) (j31_2.toInt) (j31_4.toInt))))
              refine lv_iload hx hb gX12_fitting_2.2.2.2.1 (lv_at hl 4 rfl) ?_
              refine lv_aload_n hx hb gX12_fitting_2.2.2.2.2.1 rfl (lv_at hl 0 rfl) ?_
              refine th_getK hC cf_X12 hB.1 h0 ro_46 rfl (j := 2) (by decide) mb2 kf_X12_28 gX12_fitting_2.2.2.2.2.2.1 ?_
              refine lv_bipush (v := 68) hx hb gX12_fitting_2.2.2.2.2.2.2.1 (by decide) ?_
              refine th_ialdF hC hB.1 hb2 ro_48 rfl tk_68 (by omega) (by omega) (ek_hall (by omega) (by omega)) gX12_fitting_2.2.2.2.2.2.2.2 (fun x4 mx4 lx4 ux4 => ?_)
              replace hF := hF.trans (congrArg (dv_k f_X12_fitting_17b) (congrArg (dv_k f_X12_fitting_31b) (dv_bn (dv_aldI hB.1 hU hb2 ow_48 (z := 68) mx4 (by omega)))))
              refine tr_icmp_ge (tgt := 82) hx hb gX12_fitting_3.1 (by decide) (Eq.refl _) (Eq.refl _) (fun c40 => ?_) (fun c40 => ?_)
              · replace hF := hF.trans (congrArg (dv_k f_X12_fitting_17b) (congrArg (dv_k f_X12_fitting_31b) (if_pos c40)))
                refine tr_iinc (fun x5 => [(3, .int x5), (0, .ref a0), (1, .int p1), (2, .int j31_2), (4, .int j31_4)]) hx hb gX12_fitting_5.2.2.2.2.2.2.2 hl (k := 2) rfl (Eq.refl _) tk_1 (by omega) (by omega) (by decide) (fun _ => rfl) (fun x5 ls ex5 hl => ?_)
                replace hF := hF.trans (congrArg (dv_k f_X12_fitting_17b) (congrArg (dv_k f_X12_fitting_31b) (dv_bn (ex5.symm))))
                refine lv_goto (tgt := 17) hx hb gX12_fitting_6.1 (by decide) ?_
                replace hF := hF.trans (congrArg (dv_k f_X12_fitting_17b) (dv_kr))
                replace hF := hF.trans (dv_kl)
                exact ih17 locs ls j31_2 x5 hB (lv_sub hl [1, 2, 3, 0] rfl) hF (by omega) (by omega) (by omega)
              · replace hF := hF.trans (congrArg (dv_k f_X12_fitting_17b) (congrArg (dv_k f_X12_fitting_31b) (if_neg (Int.not_le.mpr c40))))
                refine lv_iload_n hx hb gX12_fitting_3.2.1 rfl (lv_at hl 3 rfl) ?_
                refine lv_aload_n hx hb gX12_fitting_3.2.2.1 rfl (lv_at hl 0 rfl) ?_
                refine lv_iload_n hx hb gX12_fitting_3.2.2.2.1 rfl (lv_at hl 1 rfl) ?_
                refine lv_iload_n hx hb gX12_fitting_3.2.2.2.2.1 rfl (lv_at hl 2 rfl) ?_
                refine lv_iload hx hb gX12_fitting_3.2.2.2.2.2.1 (lv_at hl 4 rfl) ?_
                refine lv_aload_n hx hb gX12_fitting_3.2.2.2.2.2.2.1 rfl (lv_at hl 0 rfl) ?_
                refine th_getK hC cf_X12 hB.1 h0 ro_46 rfl (j := 2) (by decide) mb2 kf_X12_28 gX12_fitting_3.2.2.2.2.2.2.2 ?_
                refine lv_bipush (v := 67) hx hb gX12_fitting_4.1 (by decide) ?_
                refine th_ialdF hC hB.1 hb2 ro_48 rfl tk_67 (by omega) (by omega) (ek_hall (by omega) (by omega)) gX12_fitting_4.2.1 (fun x6 mx6 lx6 ux6 => ?_)
                replace hF := hF.trans (congrArg (dv_k f_X12_fitting_17b) (congrArg (dv_k f_X12_fitting_31b) (dv_bn (dv_aldI hB.1 hU hb2 ow_48 (z := 67) mx6 (by omega)))))
                have qx6 : x6.toInt = x3.toInt := by rw [show x6 = x3 from Value.int.inj (mx6.symm.trans mx3)]
                refine lv_aload_n hx hb gX12_fitting_4.2.2.1 rfl (lv_at hl 0 rfl) ?_
                refine th_getK hC cf_X12 hB.1 h0 ro_46 rfl (j := 2) (by decide) mb2 kf_X12_28 gX12_fitting_4.2.2.2.1 ?_
                refine lv_bipush (v := 68) hx hb gX12_fitting_4.2.2.2.2.1 (by decide) ?_
                refine th_ialdF hC hB.1 hb2 ro_48 rfl tk_68 (by omega) (by omega) (ek_hall (by omega) (by omega)) gX12_fitting_4.2.2.2.2.2.1 (fun x7 mx7 lx7 ux7 => ?_)
                replace hF := hF.trans (congrArg (dv_k f_X12_fitting_17b) (congrArg (dv_k f_X12_fitting_31b) (dv_bn (dv_aldI hB.1 hU hb2 ow_48 (z := 68) mx7 (by omega)))))
                have qx7 : x7.toInt = x4.toInt := by rw [show x7 = x4 from Value.int.inj (mx7.symm.trans mx4)]
                refine th_call (th_runV (As := [.int p1, .int j17_3, .int j31_4, .int x6, .int x7]) (rest := [.int j31_2]) hC mf_X12_isFree km_X12_360 im_X12_isFree se_X12_isFree (c_X12_isFree l G Γ H10 hB.1 hU a0 h0 p1 (by omega) (by omega) j17_3 (by omega) (by omega) j31_4 (by omega) (by omega) x6 (by omega) (by omega) x7 (by omega) (by omega)) rfl rfl ⟨Nat.le_of_ble_eq_true rfl, Nat.le_of_ble_eq_true rfl⟩ hB.1 h0 ro_46 rfl rfl hl.1 rfl (Nat.le_of_ble_eq_true rfl) gX12_fitting_4.2.2.2.2.2.2.1 ⟨Nat.le_refl _, Nat.le_refl _⟩) hB.2.1 (fun v63 H63 locs hp hz hS => ?_)
                obtain ⟨x8, rfl, lx8, ux8, q63_0, q63_1, q63_2, rfl⟩ := hp
                have hB := th_B_s hB hS
                replace hF := hF.trans (congrArg (dv_k f_X12_fitting_17b) (congrArg (dv_k f_X12_fitting_31b) (dv_bn2 (q63_2))))
                refine W.eq (g2 := F0 m 66 ls [.int x8, .int j31_2]) rfl ?_
                have jn74 : ∀ (locs : List Loc) (ls : Array Slot) (s74_1 : Int32), th_B G Γ Γ [(59, 0)] H0 H10 locs → lv_has ls 5 [(0, .ref a0), (1, .int p1), (3, .int j17_3), (4, .int j31_4)] → F = dv_k f_X12_fitting_17b (dv_k f_X12_fitting_31b (f_X12_fitting_74 (dv G Γ H10) ((a0 : Int)) (p1.toInt) (j17_3.toInt) (j31_4.toInt) (j31_2.toInt) (s74_1.toInt))) → 0 ≤ s74_1.toInt → s74_1.toInt ≤ 1 → W p l e ({ frames := 2, cells := 0, slots := 0, locals := 45 } : Room) s m ([.ref a0, .int p1] : List Value).toArray below meth c H10 locs 0 0 (MQ below (th_Q (fun (v : Option Value) (H1 : Heap) => ∃ r : Int32, v = some (.int r) ∧ th_I G Γ H1 ∧ th_F G Γ [(59, 0)] H0 H1 ∧ th_RK a0 G Γ H1 ∧ (f_X12_fitting (dv G Γ H0) (a0 : Int) p1.toInt = (dv G Γ H1, r.toInt))) G) ([.ref a0, .int p1] : List Value).toArray s 0 0 (fun q => G.1.2.2 ≤ q)) (F0 m 74 ls [.int s74_1, .int j31_2]) := by
                  intro locs ls s74_1 hB hl hF g74_0 g74_1
                  have ls74_1 := ti_lo s74_1; have us74_1 := ti_hi s74_1
                  replace hF := hF.trans (congrArg (dv_k f_X12_fitting_17b) (congrArg (dv_k f_X12_fitting_31b) (f_X12_fitting_74.eq_1 (dv G Γ H10) ((a0 : Int)) (p1.toInt) (j17_3.toInt) (j31_4.toInt) (j31_2.toInt) (s74_1.toInt))))
                  refine lv_iadd hx hb gX12_fitting_5.2.2.2.1 ?_
                  refine lv_topi (fun x9 ex9 => ?_)
                  have lx9 := ti_lo x9; have ux9 := ti_hi x9
                  replace hF := hF.trans (congrArg (dv_k f_X12_fitting_17b) (congrArg (dv_k f_X12_fitting_31b) (dv_bn (dv_add_e (Eq.refl _) (Eq.refl _) ex9))))
                  refine lv_istore_n (lv' := [(2, .int x9), (0, .ref a0), (1, .int p1), (3, .int j17_3), (4, .int j31_4)]) hx hb gX12_fitting_5.2.2.2.2.1 rfl hl (by decide) rfl (fun ls hl => ?_)
                  refine tr_iinc (fun x10 => [(4, .int x10), (2, .int x9), (0, .ref a0), (1, .int p1), (3, .int j17_3)]) hx hb gX12_fitting_5.2.2.2.2.2.1 hl (k := 4) rfl (Eq.refl _) tk_1 (by omega) (by omega) (by decide) (fun _ => rfl) (fun x10 ls ex10 hl => ?_)
                  replace hF := hF.trans (congrArg (dv_k f_X12_fitting_17b) (congrArg (dv_k f_X12_fitting_31b) (dv_bn (ex10.symm))))
                  refine lv_goto (tgt := 31) hx hb gX12_fitting_5.2.2.2.2.2.2.1 (by decide) ?_
                  replace hF := hF.trans (congrArg (dv_k f_X12_fitting_17b) (dv_kl))
                  exact ih31 locs ls x9 x10 hB (lv_sub hl [2, 3, 4, 1, 0] rfl) hF (by omega) (by omega) (by omega)
                refine tr_if_eq (tgt := 73) hx hb gX12_fitting_4.2.2.2.2.2.2.2 (by decide) (Eq.refl _) (fun c66 => ?_) (fun c66 => ?_)
                · replace hF := hF.trans (congrArg (dv_k f_X12_fitting_17b) (congrArg (dv_k f_X12_fitting_31b) (if_pos c66)))
                  refine lv_iconst (v := 0) hx hb gX12_fitting_5.2.2.1 (by decide) ?_
                  exact jn74 locs ls 0 hB (lv_sub hl [0, 1, 2, 4] rfl) (by rw [tk_0]; exact hF) (by decide) (by decide)
                · replace hF := hF.trans (congrArg (dv_k f_X12_fitting_17b) (congrArg (dv_k f_X12_fitting_31b) (if_neg c66)))
                  refine lv_iconst (v := 1) hx hb gX12_fitting_5.1 (by decide) ?_
                  refine lv_goto (tgt := 74) hx hb gX12_fitting_5.2.1 (by decide) ?_
                  exact jn74 locs ls 1 hB (lv_sub hl [0, 1, 2, 4] rfl) (by rw [tk_1]; exact hF) (by decide) (by decide)
          exact lp31 ((2147483648 : Int) - (0)).toNat locs ls j17_2 0 hB (lv_sub hl [1, 2, 4, 3, 0] rfl) (by rw [tk_0]; exact hF) (by decide) (by decide) (by have w0 := tk_0; omega)
    exact lp17 ((2147483648 : Int) - (0)).toNat locs ls 0 0 hB (lv_sub hl [2, 3, 1, 0] rfl) (by rw [tk_0]; exact hF) (by decide) (by decide) (by have w0 := tk_0; omega)
  · replace hF := hF.trans (if_neg (not_not_intro c4))
    refine lv_iconst (v := (-1)) hx hb gX12_fitting_0.2.2.2.1 (by decide) ?_
    exact th_iret hC hH hr hlocks rfl hB.2.1 ⟨_, rfl, hB.1, hB.2.2, hR, (hF0.symm.trans (hF.trans (by rw [tk_m1])))⟩ gX12_fitting_0.2.2.2.2.1
end
section
set_option maxHeartbeats 4000000 in
set_option maxRecDepth 100000 in
theorem c_X12_readsAs (l : Launch) (G : th_G) (Γ : th_Ga) (H0 : Heap) (hI : th_I G Γ H0) (hR : th_RC G Γ H0) (hU : dv_U Γ) (a0 : Nat) (h0 : Γ a0 = (46, 0)) (p1 : Int32) (f1 : 0 ≤ p1.toInt) (g1 : p1.toInt ≤ 1) : Met l yX12_readsAs (.code yX12_readsAs cX12_readsAs 2 (some FieldType.boolean) :: th_tb) ({ frames := 74, cells := 0, slots := 0, locals := 2226 } : Room) (th_P [.ref a0, .int p1] G H0) (th_Q (fun (v : Option Value) (H1 : Heap) => ∃ r : Int32, v = some (.int r) ∧ 0 ≤ r.toInt ∧ r.toInt ≤ 1 ∧ th_I G Γ H1 ∧ th_F G Γ [(46, 19), (46, 20), (46, 21), (46, 18), (57, 0), (56, 0), (55, 0), (46, 13), (46, 14), (46, 8), (46, 9), (46, 10)] H0 H1 ∧ th_RC G Γ H1 ∧ (r.toInt = 1 → mo_text p1.toInt (mo_cr G H1 a0) (mo_f G H1 a0 18)) ∧ (f_X12_readsAs (dv G Γ H0) (a0 : Int) p1.toInt = (dv G Γ H1, r.toInt))) G) 0 0 (fun q => G.1.2.2 ≤ q) := by
  refine th_met RX12 (by decide) rfl (Nat.le_of_ble_eq_true rfl) ?_
  intro p e s m below meth c hC hH hr hlocks hnm ls hl
  have hx := hC.1
  have hb := hC.2.1
  have hB : th_B G Γ Γ [(46, 19), (46, 20), (46, 21), (46, 18), (57, 0), (56, 0), (55, 0), (46, 13), (46, 14), (46, 8), (46, 9), (46, 10)] H0 H0 [] := ⟨hI, va_S.rf, th_F_rf⟩
  have hl : lv_has ls 2 [(0, .ref a0), (1, .int p1)] := hl
  have lp1 := ti_lo p1; have up1 := ti_hi p1
  obtain ⟨F, hF0⟩ : ∃ F, F = f_X12_readsAs (dv G Γ H0) ((a0 : Int)) (p1.toInt) := ⟨_, rfl⟩
  have hF := hF0.trans (f_X12_readsAs.eq_1 (dv G Γ H0) ((a0 : Int)) (p1.toInt))
  refine lv_aload_n hx hb gX12_readsAs_0.1 rfl (lv_at hl 0 rfl) ?_
  refine lv_iload_n hx hb gX12_readsAs_0.2.1 rfl (lv_at hl 1 rfl) ?_
  refine th_put hC cf_X12 hB h0 (Or.inl h0) ro_46 rfl (j := 10) rfl (th_sI (by omega) (by omega)) (by decide) rfl (th_nb (by omega) (by omega)) (th_fb (by omega) (by omega)) kf_X12_224 gX12_readsAs_0.2.2.1 (fun H2 locs hB hf hst2 => ?_)
  have hR := th_RC_F hB.1 hR hf (th_T_s h0 ro_46 hst2) (by decide)
  have fv_H2_8 : mo_f G H2 a0 8 = mo_f G H0 a0 8 := mo_f_F hf h0 (by decide) (by decide)
  have fv_H2_9 : mo_f G H2 a0 9 = mo_f G H0 a0 9 := mo_f_F hf h0 (by decide) (by decide)
  replace hF := hF.trans (dv_bn (dv_putI hB.1 h0 ro_46 (j := 10) rfl (th_apart hC cf_X12) hst2 (Eq.refl _) (by decide)))
  have fp2 : mo_f G H2 a0 10 = p1.toInt := mo_f_St hst2
  refine lv_aload_n hx hb gX12_readsAs_0.2.2.2.1 rfl (lv_at hl 0 rfl) ?_
  refine lv_iload_n hx hb gX12_readsAs_0.2.2.2.2.1 rfl (lv_at hl 1 rfl) ?_
  refine tr_if_eq (tgt := 15) hx hb gX12_readsAs_0.2.2.2.2.2.1 (by decide) (Eq.refl _) (fun c7 => ?_) (fun c7 => ?_)
  · replace hF := hF.trans (if_pos c7)
    refine lv_bipush (v := 8) hx hb gX12_readsAs_1.1 (by decide) ?_
    refine th_put hC cf_X12 hB h0 (Or.inl h0) ro_46 rfl (j := 8) rfl th_sIa (by decide) rfl rfl rfl kf_X12_250 gX12_readsAs_1.2.1 (fun H17 locs hB hf hst17 => ?_)
    have hR := th_RC_F hB.1 hR hf (th_T_s h0 ro_46 hst17) (by decide)
    have fv_H17_9 : mo_f G H17 a0 9 = mo_f G H2 a0 9 := mo_f_F hf h0 (by decide) (by decide)
    have fv_H17_10 : mo_f G H17 a0 10 = mo_f G H2 a0 10 := mo_f_F hf h0 (by decide) (by decide)
    replace hF := hF.trans (dv_bn (dv_putI hB.1 h0 ro_46 (j := 8) rfl (th_apart hC cf_X12) hst17 tk_8 (by decide)))
    have fp17 : mo_f G H17 a0 8 = 8 := (mo_f_St hst17).trans tk_8
    refine lv_aload_n hx hb gX12_readsAs_1.2.2.1 rfl (lv_at hl 0 rfl) ?_
    refine lv_iload_n hx hb gX12_readsAs_1.2.2.2.1 rfl (lv_at hl 1 rfl) ?_
    refine tr_if_eq (tgt := 30) hx hb gX12_readsAs_1.2.2.2.2.1 (by decide) (Eq.refl _) (fun c22 => ?_) (fun c22 => ?_)
    · replace hF := hF.trans (if_pos c22)
      refine lv_bipush (v := 15) hx hb gX12_readsAs_1.2.2.2.2.2.2.2 (by decide) ?_
      refine th_put hC cf_X12 hB h0 (Or.inl h0) ro_46 rfl (j := 9) rfl th_sIa (by decide) rfl rfl rfl kf_X12_253 gX12_readsAs_2.1 (fun H32 locs hB hf hst32 => ?_)
      have hR := th_RC_F hB.1 hR hf (th_T_s h0 ro_46 hst32) (by decide)
      have fv_H32_8 : mo_f G H32 a0 8 = mo_f G H17 a0 8 := mo_f_F hf h0 (by decide) (by decide)
      have fv_H32_10 : mo_f G H32 a0 10 = mo_f G H17 a0 10 := mo_f_F hf h0 (by decide) (by decide)
      replace hF := hF.trans (dv_bn (dv_putI hB.1 h0 ro_46 (j := 9) rfl (th_apart hC cf_X12) hst32 tk_15 (by decide)))
      have fp32 : mo_f G H32 a0 9 = 15 := (mo_f_St hst32).trans tk_15
      refine lv_aload_n hx hb gX12_readsAs_2.2.1 rfl (lv_at hl 0 rfl) ?_
      refine th_call (th_runV (As := []) (rest := []) hC mf_X12_reads km_X12_265 im_X12_reads se_X12_reads (c_X12_reads l G Γ H32 hB.1 hR hU a0 h0 p1.toInt (show mo_wd G H32 a0 p1.toInt from ⟨by omega, by omega⟩)) rfl rfl ⟨Nat.le_of_ble_eq_true rfl, Nat.le_of_ble_eq_true rfl⟩ hB.1 h0 ro_46 rfl rfl hl.1 rfl (Nat.le_of_ble_eq_true rfl) gX12_readsAs_2.2.2.1 ⟨Nat.le_refl _, Nat.le_refl _⟩) hB.2.1 (fun v36 H36 locs hp hz hS => ?_)
      obtain ⟨x1, rfl, lx1, ux1, hI1, hf, hR, z36_0, z36_1⟩ := hp
      have hB := th_B_c hB hI1 hS hf (by decide)
      have fv_H36_8 : mo_f G H36 a0 8 = mo_f G H32 a0 8 := mo_f_F hf h0 (by decide) (by decide)
      have fv_H36_9 : mo_f G H36 a0 9 = mo_f G H32 a0 9 := mo_f_F hf h0 (by decide) (by decide)
      have fv_H36_10 : mo_f G H36 a0 10 = mo_f G H32 a0 10 := mo_f_F hf h0 (by decide) (by decide)
      replace hF := hF.trans (dv_bn2 (z36_1))
      refine W.eq (g2 := F0 m 39 ls [.int x1]) rfl ?_
      exact th_iret hC hH hr hlocks (th_nb (by omega) (by omega)) hB.2.1 ⟨_, rfl, by omega, by omega, hB.1, hB.2.2, hR, z36_0, (hF0.symm.trans hF)⟩ gX12_readsAs_2.2.2.2
    · exfalso; omega
  · replace hF := hF.trans (if_neg c7)
    refine lv_bipush (v := 14) hx hb gX12_readsAs_0.2.2.2.2.2.2.1 (by decide) ?_
    refine lv_goto (tgt := 17) hx hb gX12_readsAs_0.2.2.2.2.2.2.2 (by decide) ?_
    refine th_put hC cf_X12 hB h0 (Or.inl h0) ro_46 rfl (j := 8) rfl th_sIa (by decide) rfl rfl rfl kf_X12_250 gX12_readsAs_1.2.1 (fun H17 locs hB hf hst17 => ?_)
    have hR := th_RC_F hB.1 hR hf (th_T_s h0 ro_46 hst17) (by decide)
    have fv_H17_9 : mo_f G H17 a0 9 = mo_f G H2 a0 9 := mo_f_F hf h0 (by decide) (by decide)
    have fv_H17_10 : mo_f G H17 a0 10 = mo_f G H2 a0 10 := mo_f_F hf h0 (by decide) (by decide)
    replace hF := hF.trans (dv_bn (dv_putI hB.1 h0 ro_46 (j := 8) rfl (th_apart hC cf_X12) hst17 tk_14 (by decide)))
    have fp17 : mo_f G H17 a0 8 = 14 := (mo_f_St hst17).trans tk_14
    refine lv_aload_n hx hb gX12_readsAs_1.2.2.1 rfl (lv_at hl 0 rfl) ?_
    refine lv_iload_n hx hb gX12_readsAs_1.2.2.2.1 rfl (lv_at hl 1 rfl) ?_
    refine tr_if_eq (tgt := 30) hx hb gX12_readsAs_1.2.2.2.2.1 (by decide) (Eq.refl _) (fun c22 => ?_) (fun c22 => ?_)
    · exfalso; omega
    · replace hF := hF.trans (if_neg c22)
      refine lv_bipush (v := 20) hx hb gX12_readsAs_1.2.2.2.2.2.1 (by decide) ?_
      refine lv_goto (tgt := 32) hx hb gX12_readsAs_1.2.2.2.2.2.2.1 (by decide) ?_
      refine th_put hC cf_X12 hB h0 (Or.inl h0) ro_46 rfl (j := 9) rfl th_sIa (by decide) rfl rfl rfl kf_X12_253 gX12_readsAs_2.1 (fun H32 locs hB hf hst32 => ?_)
      have hR := th_RC_F hB.1 hR hf (th_T_s h0 ro_46 hst32) (by decide)
      have fv_H32_8 : mo_f G H32 a0 8 = mo_f G H17 a0 8 := mo_f_F hf h0 (by decide) (by decide)
      have fv_H32_10 : mo_f G H32 a0 10 = mo_f G H17 a0 10 := mo_f_F hf h0 (by decide) (by decide)
      replace hF := hF.trans (dv_bn (dv_putI hB.1 h0 ro_46 (j := 9) rfl (th_apart hC cf_X12) hst32 tk_20 (by decide)))
      have fp32 : mo_f G H32 a0 9 = 20 := (mo_f_St hst32).trans tk_20
      refine lv_aload_n hx hb gX12_readsAs_2.2.1 rfl (lv_at hl 0 rfl) ?_
      refine th_call (th_runV (As := []) (rest := []) hC mf_X12_reads km_X12_265 im_X12_reads se_X12_reads (c_X12_reads l G Γ H32 hB.1 hR hU a0 h0 p1.toInt (show mo_wd G H32 a0 p1.toInt from ⟨by omega, by omega⟩)) rfl rfl ⟨Nat.le_of_ble_eq_true rfl, Nat.le_of_ble_eq_true rfl⟩ hB.1 h0 ro_46 rfl rfl hl.1 rfl (Nat.le_of_ble_eq_true rfl) gX12_readsAs_2.2.2.1 ⟨Nat.le_refl _, Nat.le_refl _⟩) hB.2.1 (fun v36 H36 locs hp hz hS => ?_)
      obtain ⟨x2, rfl, lx2, ux2, hI1, hf, hR, z36_0, z36_1⟩ := hp
      have hB := th_B_c hB hI1 hS hf (by decide)
      have fv_H36_8 : mo_f G H36 a0 8 = mo_f G H32 a0 8 := mo_f_F hf h0 (by decide) (by decide)
      have fv_H36_9 : mo_f G H36 a0 9 = mo_f G H32 a0 9 := mo_f_F hf h0 (by decide) (by decide)
      have fv_H36_10 : mo_f G H36 a0 10 = mo_f G H32 a0 10 := mo_f_F hf h0 (by decide) (by decide)
      replace hF := hF.trans (dv_bn2 (z36_1))
      refine W.eq (g2 := F0 m 39 ls [.int x2]) rfl ?_
      exact th_iret hC hH hr hlocks (th_nb (by omega) (by omega)) hB.2.1 ⟨_, rfl, by omega, by omega, hB.1, hB.2.2, hR, z36_0, (hF0.symm.trans hF)⟩ gX12_readsAs_2.2.2.2

set_option maxHeartbeats 4000000 in
set_option maxRecDepth 100000 in
theorem c_X12_lays (l : Launch) (G : th_G) (Γ : th_Ga) (H0 : Heap) (hI : th_I G Γ H0) (hR : th_RC G Γ H0) (hU : dv_U Γ) (a0 : Nat) (h0 : Γ a0 = (46, 0)) (p1 : Int32) (f1 : 0 ≤ p1.toInt) (g1 : p1.toInt ≤ 6) : Met l yX12_lays (.code yX12_lays cX12_lays 3 (none) :: th_tb) ({ frames := 0, cells := 0, slots := 0, locals := 0 } : Room) (th_P [.ref a0, .int p1] G H0) (th_Q (fun (v : Option Value) (H1 : Heap) => v = none ∧ th_I G Γ H1 ∧ th_F G Γ [(48, 0)] H0 H1 ∧ th_RC G Γ H1 ∧ (∀ z : Int, z < 2880 → mo_v G H1 a0 2 z = mo_ly (mo_v G H0 a0 2) (mo_v G H0 a0 15) p1.toInt (mo_f G H0 a0 18) (mo_f G H0 a0 18) z) ∧ (f_X12_lays (dv G Γ H0) (a0 : Int) p1.toInt = (dv G Γ H1, 0))) G) 0 0 (fun q => G.1.2.2 ≤ q) := by
  refine th_met RX12 (by decide) rfl (Nat.le_of_ble_eq_true rfl) ?_
  intro p e s m below meth c hC hH hr hlocks hnm ls hl
  have hx := hC.1
  have hb := hC.2.1
  have hB : th_B G Γ Γ [(48, 0)] H0 H0 [] := ⟨hI, va_S.rf, th_F_rf⟩
  have hl : lv_has ls 3 [(0, .ref a0), (1, .int p1)] := hl
  have lp1 := ti_lo p1; have up1 := ti_hi p1
  obtain ⟨F, hF0⟩ : ∃ F, F = f_X12_lays (dv G Γ H0) ((a0 : Int)) (p1.toInt) := ⟨_, rfl⟩
  have hF := hF0.trans (f_X12_lays.eq_1 (dv G Γ H0) ((a0 : Int)) (p1.toInt))
  refine lv_aload_n hx hb gX12_lays_0.1 rfl (lv_at hl 0 rfl) ?_
  refine th_getO (j := 2) (r2 := 48) hC cf_X12 hB.1 h0 ro_46 rfl rfl kf_X12_28 gX12_lays_0.2.1 (fun b1 mb1 hb1 => ?_)
  refine lv_bipush (v := 73) hx hb gX12_lays_0.2.2.1 (by decide) ?_
  refine lv_iload_n hx hb gX12_lays_0.2.2.2.1 rfl (lv_at hl 1 rfl) ?_
  refine tr_iadd hx hb gX12_lays_0.2.2.2.2.1 tk_73 (Eq.refl _) (by omega) (by omega) (fun x2 ex2 => ?_)
  replace hF := hF.trans (dv_bn (ex2.symm))
  refine lv_aload_n hx hb gX12_lays_0.2.2.2.2.2.1 rfl (lv_at hl 0 rfl) ?_
  refine th_getI (j := 18) hC cf_X12 hB.1 h0 ro_46 rfl rfl kf_X12_175 gX12_lays_0.2.2.2.2.2.2.1 (fun x3 mx3 lx3 ux3 => ?_)
  replace hF := hF.trans (dv_bn (dv_getI h0 ro_46 (j := 18) rfl mx3 (by decide)))
  have fg4 : mo_f G H0 a0 18 = x3.toInt := mo_fat mx3
  have hIo := hB.1
  refine th_iastF hC hB hb1 (Or.inl hb1) ro_48 rfl (by decide) (Eq.refl _) (by omega) (by omega) (by rw [(ek_size (by omega) (by omega))]; exact (th_sI (by omega) (by omega))) gX12_lays_0.2.2.2.2.2.2.2 (fun H12 locs hB hf12 hst12 => ?_)
  have hf := hf12
  have mm5 := (th_F_o hf h0 ro_46 (j := 2) (by decide) (by decide)).trans mb1
  have mm6 := (th_F_o hf h0 ro_46 (j := 18) (by decide) (by decide)).trans mx3
  have hR := th_RC_F hB.1 hR hf (th_T_s hb1 ro_48 hst12) (by decide)
  have fv_H12_18 : mo_f G H12 a0 18 = mo_f G H0 a0 18 := mo_f_F hf h0 (by decide) (by decide)
  have vv_H12_15 : mo_v G H12 a0 15 = mo_v G H0 a0 15 := mo_v_F (r := 55) hB.1 hf h0 rfl ro_55 (by decide) (by decide)
  replace hF := hF.trans (dv_bn (dv_stoI hIo hB.1 hU hb1 ow_48 (i := x2.toInt) hst12 (Eq.refl _) (by omega)))
  have vs12 : mo_v G H12 a0 2 = mo_u (mo_v G H0 a0 2) (73 + p1.toInt) x3.toInt := by rw [show ((73 + p1.toInt) : Int) = x2.toInt by omega]; exact mo_v_st h0 hb1 (by decide) mb1 hst12 (by omega)
  refine lv_iconst (v := 0) hx hb gX12_lays_1.1 (by decide) ?_
  refine lv_istore_n (lv' := [(2, .int 0), (0, .ref a0), (1, .int p1)]) hx hb gX12_lays_1.2.1 rfl hl (by decide) rfl (fun ls hl => ?_)
  have lp15 : ∀ (n15 : Nat) (H15 : Heap) (locs : List Loc) (ls : Array Slot) (j15_2 : Int32), th_B G Γ Γ [(48, 0)] H0 H15 locs → th_RC G Γ H15 → lv_has ls 3 [(0, .ref a0), (1, .int p1), (2, .int j15_2)] → F = dv_lp f_X12_lays_15b (dv G Γ H15, (a0 : Int), p1.toInt, j15_2.toInt) → 0 ≤ j15_2.toInt → j15_2.toInt ≤ 400 → (∀ z : Int, z < 2880 → mo_v G H15 a0 2 z = mo_ly (mo_v G H0 a0 2) (mo_v G H0 a0 15) p1.toInt (mo_f G H0 a0 18) j15_2.toInt z) → j15_2.toInt ≤ mo_f G H0 a0 18 → (2147483648 : Int) - j15_2.toInt ≤ (n15 : Int) → W p l e ({ frames := 0, cells := 0, slots := 0, locals := 0 } : Room) s m ([.ref a0, .int p1] : List Value).toArray below meth c H15 locs 0 0 (MQ below (th_Q (fun (v : Option Value) (H1 : Heap) => v = none ∧ th_I G Γ H1 ∧ th_F G Γ [(48, 0)] H0 H1 ∧ th_RC G Γ H1 ∧ (∀ z : Int, z < 2880 → mo_v G H1 a0 2 z = mo_ly (mo_v G H0 a0 2) (mo_v G H0 a0 15) p1.toInt (mo_f G H0 a0 18) (mo_f G H0 a0 18) z) ∧ (f_X12_lays (dv G Γ H0) (a0 : Int) p1.toInt = (dv G Γ H1, 0))) G) ([.ref a0, .int p1] : List Value).toArray s 0 0 (fun q => G.1.2.2 ≤ q)) (F0 m 15 ls []) := by
    intro n15
    induction n15 with
    | zero => intro H15 locs ls j15_2 hB hR hl hF g15_0 g15_1 g15_2 g15_3 hm15; exact absurd hm15 (by have := ti_hi j15_2; omega)
    | succ n15 ih15 =>
      intro H15 locs ls j15_2 hB hR hl hF g15_0 g15_1 g15_2 g15_3 hm15
      have lj15_2 := ti_lo j15_2; have uj15_2 := ti_hi j15_2
      have mm7 := (th_F_o hB.2.2 h0 ro_46 (j := 2) (by decide) (by decide)).trans mb1
      have mm8 := (th_F_o hB.2.2 h0 ro_46 (j := 18) (by decide) (by decide)).trans mx3
      have fv9_18 : mo_f G H15 a0 18 = mo_f G H0 a0 18 := mo_f_F hB.2.2 h0 (by decide) (by decide)
      have vw_H15_15 : mo_v G H15 a0 15 = mo_v G H0 a0 15 := mo_v_F (r := 55) hB.1 hB.2.2 h0 rfl ro_55 (by decide) (by decide)
      have hm15 : (2147483648 : Int) - j15_2.toInt ≤ (n15 : Int) + 1 := by omega
      replace hF := hF.trans (dv_lp_eq)
      replace hF := hF.trans (congrArg (dv_k f_X12_lays_15b) (f_X12_lays_15c.eq_1 (dv G Γ H15) ((a0 : Int)) (p1.toInt) (j15_2.toInt)))
      refine lv_iload_n hx hb gX12_lays_1.2.2.1 rfl (lv_at hl 2 rfl) ?_
      refine lv_aload_n hx hb gX12_lays_1.2.2.2.1 rfl (lv_at hl 0 rfl) ?_
      refine th_getK hC cf_X12 hB.1 h0 ro_46 rfl (j := 18) (by decide) mm8 kf_X12_175 gX12_lays_1.2.2.2.2.1 ?_
      replace hF := hF.trans (congrArg (dv_k f_X12_lays_15b) (dv_bn (dv_getI h0 ro_46 (j := 18) rfl mm8 (by decide))))
      have fg10 : mo_f G H15 a0 18 = x3.toInt := mo_fat mm8
      refine tr_icmp_ge (tgt := 72) hx hb gX12_lays_1.2.2.2.2.2.1 (by decide) (Eq.refl _) (Eq.refl _) (fun c20 => ?_) (fun c20 => ?_)
      · replace hF := hF.trans (congrArg (dv_k f_X12_lays_15b) (if_pos c20))
        replace hF := hF.trans (dv_kr)
        exact th_vret hC hH hr hlocks hB.2.1 ⟨rfl, hB.1, hB.2.2, hR, fun z z1 => by rw [g15_2 z z1, show j15_2.toInt = mo_f G H0 a0 18 by omega], (hF0.symm.trans hF)⟩ gX12_lays_5.2.2.2.2
      · replace hF := hF.trans (congrArg (dv_k f_X12_lays_15b) (if_neg (Int.not_le.mpr c20)))
        refine lv_aload_n hx hb gX12_lays_1.2.2.2.2.2.2.1 rfl (lv_at hl 0 rfl) ?_
        refine th_getK hC cf_X12 hB.1 h0 ro_46 rfl (j := 2) (by decide) mm7 kf_X12_28 gX12_lays_1.2.2.2.2.2.2.2 ?_
        refine lv_bipush (v := 80) hx hb gX12_lays_2.1 (by decide) ?_
        refine lv_sipush (v := 400) hx hb gX12_lays_2.2.1 (by decide) ?_
        refine lv_iload_n hx hb gX12_lays_2.2.2.1 rfl (lv_at hl 1 rfl) ?_
        refine tr_imul hx hb gX12_lays_2.2.2.2.1 tk_400 (Eq.refl _) (by omega) (by omega) (fun x11 ex11 => ?_)
        replace hF := hF.trans (congrArg (dv_k f_X12_lays_15b) (dv_bn (ex11.symm)))
        refine tr_iadd hx hb gX12_lays_2.2.2.2.2.1 tk_80 (Eq.refl _) (by omega) (by omega) (fun x12 ex12 => ?_)
        replace hF := hF.trans (congrArg (dv_k f_X12_lays_15b) (dv_bn (ex12.symm)))
        refine lv_iload_n hx hb gX12_lays_2.2.2.2.2.2.1 rfl (lv_at hl 2 rfl) ?_
        refine tr_iadd hx hb gX12_lays_2.2.2.2.2.2.2.1 (Eq.refl _) (Eq.refl _) (by omega) (by omega) (fun x13 ex13 => ?_)
        replace hF := hF.trans (congrArg (dv_k f_X12_lays_15b) (dv_bn (ex13.symm)))
        refine lv_aload_n hx hb gX12_lays_2.2.2.2.2.2.2.2 rfl (lv_at hl 0 rfl) ?_
        refine th_getO (j := 15) (r2 := 55) hC cf_X12 hB.1 h0 ro_46 rfl rfl kf_X12_54 gX12_lays_3.1 (fun b14 mb14 hb14 => ?_)
        have sb14 := (th_F_o hB.2.2 h0 ro_46 (j := 15) (by decide) (by decide)).symm.trans mb14
        refine lv_iload_n hx hb gX12_lays_3.2.1 rfl (lv_at hl 2 rfl) ?_
        refine th_ialdF hC hB.1 hb14 ro_55 rfl (Eq.refl _) (by omega) (by omega) rfl gX12_lays_3.2.2.1 (fun x15 mx15 lx15 ux15 => ?_)
        replace hF := hF.trans (congrArg (dv_k f_X12_lays_15b) (dv_bn (dv_aldI hB.1 hU hb14 ow_55 (z := j15_2.toInt) mx15 (by omega))))
        have vgx15 : mo_v G H0 a0 15 j15_2.toInt = x15.toInt := by rw [← (mo_v_F (r := 55) hB.1 hB.2.2 h0 rfl ro_55 (by decide) (by decide) : mo_v G H15 a0 15 = _)]; rw [show (j15_2.toInt : Int) = j15_2.toInt by omega]; exact mo_vat mb14 mx15 (by omega)
        have hIo := hB.1
        refine th_iastF hC hB hb1 (Or.inl hb1) ro_48 rfl (by decide) (Eq.refl _) (by omega) (by omega) (by rw [(ek_c (by omega) (by omega))]; exact th_sIa) gX12_lays_3.2.2.2.1 (fun H43 locs hB hf43 hst43 => ?_)
        have hf := hf43
        have mm16 := (th_F_o hf h0 ro_46 (j := 2) (by decide) (by decide)).trans mm7
        have mm17 := (th_F_o hf h0 ro_46 (j := 18) (by decide) (by decide)).trans mm8
        have mm18 := (th_F_o hf h0 ro_46 (j := 15) (by decide) (by decide)).trans mb14
        have hR := th_RC_F hB.1 hR hf (th_T_s hb1 ro_48 hst43) (by decide)
        have fv_H43_18 : mo_f G H43 a0 18 = mo_f G H15 a0 18 := mo_f_F hf h0 (by decide) (by decide)
        have vv_H43_15 : mo_v G H43 a0 15 = mo_v G H15 a0 15 := mo_v_F (r := 55) hB.1 hf h0 rfl ro_55 (by decide) (by decide)
        replace hF := hF.trans (congrArg (dv_k f_X12_lays_15b) (dv_bn (dv_stoI hIo hB.1 hU hb1 ow_48 (i := x13.toInt) hst43 (Eq.refl _) (by omega))))
        have vs43 : mo_v G H43 a0 2 = mo_u (mo_v G H15 a0 2) ((80 + (400 * p1.toInt)) + j15_2.toInt) x15.toInt := by rw [show (((80 + (400 * p1.toInt)) + j15_2.toInt) : Int) = x13.toInt by omega]; exact mo_v_st h0 hb1 (by decide) mm7 hst43 (by omega)
        refine lv_aload_n hx hb gX12_lays_3.2.2.2.2.1 rfl (lv_at hl 0 rfl) ?_
        refine th_getK hC cf_X12 hB.1 h0 ro_46 rfl (j := 2) (by decide) mm16 kf_X12_28 gX12_lays_3.2.2.2.2.2.1 ?_
        refine lv_sipush (v := 2880) hx hb gX12_lays_3.2.2.2.2.2.2.1 (by decide) ?_
        refine lv_sipush (v := 400) hx hb gX12_lays_3.2.2.2.2.2.2.2 (by decide) ?_
        refine lv_iload_n hx hb gX12_lays_4.1 rfl (lv_at hl 1 rfl) ?_
        refine tr_imul hx hb gX12_lays_4.2.1 tk_400 (Eq.refl _) (by omega) (by omega) (fun x19 ex19 => ?_)
        replace hF := hF.trans (congrArg (dv_k f_X12_lays_15b) (dv_bn (ex19.symm)))
        refine tr_iadd hx hb gX12_lays_4.2.2.1 tk_2880 (Eq.refl _) (by omega) (by omega) (fun x20 ex20 => ?_)
        replace hF := hF.trans (congrArg (dv_k f_X12_lays_15b) (dv_bn (ex20.symm)))
        refine lv_iload_n hx hb gX12_lays_4.2.2.2.1 rfl (lv_at hl 2 rfl) ?_
        refine tr_iadd hx hb gX12_lays_4.2.2.2.2.1 (Eq.refl _) (Eq.refl _) (by omega) (by omega) (fun x21 ex21 => ?_)
        replace hF := hF.trans (congrArg (dv_k f_X12_lays_15b) (dv_bn (ex21.symm)))
        refine lv_aload_n hx hb gX12_lays_4.2.2.2.2.2.1 rfl (lv_at hl 0 rfl) ?_
        refine th_getO (j := 16) (r2 := 56) hC cf_X12 hB.1 h0 ro_46 rfl rfl kf_X12_57 gX12_lays_4.2.2.2.2.2.2.1 (fun b22 mb22 hb22 => ?_)
        have sb22 := (th_F_o hB.2.2 h0 ro_46 (j := 16) (by decide) (by decide)).symm.trans mb22
        refine lv_iload_n hx hb gX12_lays_4.2.2.2.2.2.2.2 rfl (lv_at hl 2 rfl) ?_
        refine th_ialdF hC hB.1 hb22 ro_56 rfl (Eq.refl _) (by omega) (by omega) rfl gX12_lays_5.1 (fun x23 mx23 lx23 ux23 => ?_)
        replace hF := hF.trans (congrArg (dv_k f_X12_lays_15b) (dv_bn (dv_aldI hB.1 hU hb22 ow_56 (z := j15_2.toInt) mx23 (by omega))))
        have hIo := hB.1
        refine th_iastF hC hB hb1 (Or.inl hb1) ro_48 rfl (by decide) (Eq.refl _) (by omega) (by omega) (by rw [(ek_c (by omega) (by omega))]; exact th_sIa) gX12_lays_5.2.1 (fun H65 locs hB hf65 hst65 => ?_)
        have hf := hf65
        have mm24 := (th_F_o hf h0 ro_46 (j := 2) (by decide) (by decide)).trans mm16
        have mm25 := (th_F_o hf h0 ro_46 (j := 18) (by decide) (by decide)).trans mm17
        have mm26 := (th_F_o hf h0 ro_46 (j := 15) (by decide) (by decide)).trans mm18
        have mm27 := (th_F_o hf h0 ro_46 (j := 16) (by decide) (by decide)).trans mb22
        have hR := th_RC_F hB.1 hR hf (th_T_s hb1 ro_48 hst65) (by decide)
        have fv_H65_18 : mo_f G H65 a0 18 = mo_f G H43 a0 18 := mo_f_F hf h0 (by decide) (by decide)
        have vv_H65_15 : mo_v G H65 a0 15 = mo_v G H43 a0 15 := mo_v_F (r := 55) hB.1 hf h0 rfl ro_55 (by decide) (by decide)
        replace hF := hF.trans (congrArg (dv_k f_X12_lays_15b) (dv_bn (dv_stoI hIo hB.1 hU hb1 ow_48 (i := x21.toInt) hst65 (Eq.refl _) (by omega))))
        have vs65 : mo_v G H65 a0 2 = mo_u (mo_v G H43 a0 2) ((2880 + (400 * p1.toInt)) + j15_2.toInt) x23.toInt := by rw [show (((2880 + (400 * p1.toInt)) + j15_2.toInt) : Int) = x21.toInt by omega]; exact mo_v_st h0 hb1 (by decide) mm16 hst65 (by omega)
        refine tr_iinc (fun x28 => [(2, .int x28), (0, .ref a0), (1, .int p1)]) hx hb gX12_lays_5.2.2.1 hl (k := 2) rfl (Eq.refl _) tk_1 (by omega) (by omega) (by decide) (fun _ => rfl) (fun x28 ls ex28 hl => ?_)
        replace hF := hF.trans (congrArg (dv_k f_X12_lays_15b) (dv_bn (ex28.symm)))
        refine lv_goto (tgt := 15) hx hb gX12_lays_5.2.2.2.1 (by decide) ?_
        replace hF := hF.trans (dv_kl)
        exact ih15 H65 locs ls x28 hB hR (lv_sub hl [1, 2, 0] rfl) hF (by omega) (by omega) (fun z z1 => by rw [vs65, mo_un (by omega), vs43]; by_cases q9 : z = ((80 + (400 * p1.toInt)) + j15_2.toInt); rw [mo_us q9]; unfold mo_ly; rw [if_neg (by omega), if_pos (by omega), ← vgx15]; congr 1; omega; rw [mo_un q9, g15_2 z z1]; unfold mo_ly; (repeat' split) <;> first | rfl | omega) (by omega) (by omega)
  exact lp15 ((2147483648 : Int) - (0)).toNat H12 locs ls 0 hB hR (lv_sub hl [1, 2, 0] rfl) (by rw [tk_0]; exact hF) (by decide) (by decide) (fun z z1 => by have w0 := tk_0; rw [vs12]; unfold mo_ly mo_u; (repeat' split) <;> first | rfl | omega) (by have w0 := tk_0; omega) (by have w0 := tk_0; omega)

set_option maxHeartbeats 4000000 in
set_option maxRecDepth 100000 in
theorem c_X12_law (l : Launch) (G : th_G) (Γ : th_Ga) (H0 : Heap) (hI : th_I G Γ H0) (hU : dv_U Γ) (a0 : Nat) (h0 : Γ a0 = (46, 0)) (hR : th_RN a0 G Γ H0) : Met l yX12_law (.code yX12_law cX12_law 1 (some FieldType.int) :: th_tb) ({ frames := 75, cells := 0, slots := 0, locals := 2247 } : Room) (th_P [.ref a0] G H0) (th_Q (fun (v : Option Value) (H1 : Heap) => ∃ r : Int32, v = some (.int r) ∧ th_I G Γ H1 ∧ th_F G Γ [(47, 0), (46, 0), (48, 0), (46, 19), (46, 20), (46, 21), (46, 18), (57, 0), (56, 0), (55, 0), (46, 13), (46, 14), (46, 8), (46, 9), (46, 10)] H0 H1 ∧ th_RN a0 G Γ H1 ∧ (f_X12_law (dv G Γ H0) (a0 : Int) = (dv G Γ H1, r.toInt))) G) 0 0 (fun q => G.1.2.2 ≤ q) := by
  refine th_met RX12 (by decide) rfl (Nat.le_of_ble_eq_true rfl) ?_
  intro p e s m below meth c hC hH hr hlocks hnm ls hl
  have hx := hC.1
  have hb := hC.2.1
  have hB : th_B G Γ Γ [(47, 0), (46, 0), (48, 0), (46, 19), (46, 20), (46, 21), (46, 18), (57, 0), (56, 0), (55, 0), (46, 13), (46, 14), (46, 8), (46, 9), (46, 10)] H0 H0 [] := ⟨hI, va_S.rf, th_F_rf⟩
  have hl : lv_has ls 1 [(0, .ref a0)] := hl
  obtain ⟨F, hF0⟩ : ∃ F, F = f_X12_law (dv G Γ H0) ((a0 : Int)) := ⟨_, rfl⟩
  have hF := hF0.trans (f_X12_law.eq_1 (dv G Γ H0) ((a0 : Int)))
  refine lv_aload_n hx hb gX12_law_0.1 rfl (lv_at hl 0 rfl) ?_
  refine th_getO (j := 2) (r2 := 48) hC cf_X12 hB.1 h0 ro_46 rfl rfl kf_X12_28 gX12_law_0.2.1 (fun b1 mb1 hb1 => ?_)
  refine lv_bipush (v := 71) hx hb gX12_law_0.2.2.1 (by decide) ?_
  refine th_ialdF hC hB.1 hb1 ro_48 rfl tk_71 (by omega) (by omega) (ek_told (by omega) (by omega)) gX12_law_0.2.2.2.1 (fun x2 mx2 lx2 ux2 => ?_)
  replace hF := hF.trans (dv_bn (dv_aldI hB.1 hU hb1 ow_48 (z := 71) mx2 (by omega)))
  have vgx2 : mo_v G H0 a0 2 71 = x2.toInt := by rw [show (71 : Int) = 71 by omega]; exact mo_vat mb1 mx2 (by omega)
  refine lv_bipush (v := 6) hx hb gX12_law_0.2.2.2.2.1 (by decide) ?_
  refine tr_icmp_ne (tgt := 24) hx hb gX12_law_0.2.2.2.2.2.1 (by decide) (Eq.refl _) tk_6 (fun c9 => ?_) (fun c9 => ?_)
  · replace hF := hF.trans (if_pos c9)
    refine lv_aload_n hx hb gX12_law_1.2.2.2.2.2.1 rfl (lv_at hl 0 rfl) ?_
    refine lv_iconst (v := 0) hx hb gX12_law_1.2.2.2.2.2.2.1 (by decide) ?_
    refine th_call (th_runV (As := [.int 0]) (rest := []) hC mf_X12_readsAs km_X12_268 im_X12_readsAs se_X12_readsAs (c_X12_readsAs l G Γ H0 hB.1 hR.1 hU a0 h0 0 (by decide) (by decide)) rfl rfl ⟨Nat.le_of_ble_eq_true rfl, Nat.le_of_ble_eq_true rfl⟩ hB.1 h0 ro_46 rfl rfl hl.1 rfl (Nat.le_of_ble_eq_true rfl) gX12_law_1.2.2.2.2.2.2.2 ⟨Nat.le_refl _, Nat.le_refl _⟩) hB.2.1 (fun v26 H26 locs hp hz hS => ?_)
    have hRD := hR
    obtain ⟨x3, rfl, lx3, ux3, hI1, hf, hR, z26_0, z26_1⟩ := hp
    have hR := th_RN_c hR hRD hI1 h0 hf (by decide)
    have hB := th_B_c hB hI1 hS hf (by decide)
    have mm4 := (th_F_o hf h0 ro_46 (j := 2) (by decide) (by decide)).trans mb1
    have fv_H26_33 : mo_f G H26 a0 33 = mo_f G H0 a0 33 := mo_f_F hf h0 (by decide) (by decide)
    have vv_H26_2 : mo_v G H26 a0 2 = mo_v G H0 a0 2 := mo_v_F (r := 48) hB.1 hf h0 rfl ro_48 (by decide) (by decide)
    have vv_H26_3 : mo_v G H26 a0 3 = mo_v G H0 a0 3 := mo_v_F (r := 49) hB.1 hf h0 rfl ro_49 (by decide) (by decide)
    have vv_H26_4 : mo_v G H26 a0 4 = mo_v G H0 a0 4 := mo_v_F (r := 50) hB.1 hf h0 rfl ro_50 (by decide) (by decide)
    have vv_H26_31 : mo_v G H26 a0 31 = mo_v G H0 a0 31 := mo_v_F (r := 61) hB.1 hf h0 rfl ro_61 (by decide) (by decide)
    have zf26 := z26_1
    rw [tk_0] at zf26
    replace hF := hF.trans (dv_bn2 (zf26))
    refine W.eq (g2 := F0 m 29 ls [.int x3]) rfl ?_
    have hB26 := hB
    refine tr_if_ne (tgt := 39) hx hb gX12_law_2.1 (by decide) (Eq.refl _) (fun c29 => ?_) (fun c29 => ?_)
    · replace hF := hF.trans (if_pos c29)
      refine lv_aload_n hx hb gX12_law_2.2.2.2.2.2.1 rfl (lv_at hl 0 rfl) ?_
      refine lv_aload_n hx hb gX12_law_2.2.2.2.2.2.2.1 rfl (lv_at hl 0 rfl) ?_
      refine th_getK hC cf_X12 hB.1 h0 ro_46 rfl (j := 2) (by decide) mm4 kf_X12_28 gX12_law_2.2.2.2.2.2.2.2 ?_
      refine lv_bipush (v := 71) hx hb gX12_law_3.1 (by decide) ?_
      refine th_ialdF hC hB.1 hb1 ro_48 rfl tk_71 (by omega) (by omega) (ek_told (by omega) (by omega)) gX12_law_3.2.1 (fun x5 mx5 lx5 ux5 => ?_)
      replace hF := hF.trans (dv_bn (dv_aldI hB.1 hU hb1 ow_48 (z := 71) mx5 (by omega)))
      have vgx5 : mo_v G H26 a0 2 71 = x5.toInt := by rw [show (71 : Int) = 71 by omega]; exact mo_vat mm4 mx5 (by omega)
      have e46 : mo_v G H26 a0 2 71 = mo_v G H0 a0 2 71 := by rw [vv_H26_2]
      refine th_call (th_runV (As := [.int x5]) (rest := []) hC mf_X12_lays km_X12_272 im_X12_lays se_X12_lays (c_X12_lays l G Γ H26 hB.1 hR.1 hU a0 h0 x5 (by omega) (by omega)) rfl rfl ⟨Nat.le_of_ble_eq_true rfl, Nat.le_of_ble_eq_true rfl⟩ hB.1 h0 ro_46 rfl rfl hl.1 rfl (Nat.le_of_ble_eq_true rfl) gX12_law_3.2.2.1 ⟨Nat.le_refl _, Nat.le_refl _⟩) hB.2.1 (fun v47 H47 locs hp hz hS => ?_)
      have hRD := hR
      obtain ⟨rfl, hI1, hf, hR, z47_0, z47_1⟩ := hp
      have hRc47 := hR
      have hR := hRD
      have hRC := hRc47
      have hB := th_B_c hB hI1 hS hf (by decide)
      have mm6 := (th_F_o hf h0 ro_46 (j := 2) (by decide) (by decide)).trans mm4
      have fv_H47_33 : mo_f G H47 a0 33 = mo_f G H26 a0 33 := mo_f_F hf h0 (by decide) (by decide)
      have vv_H47_3 : mo_v G H47 a0 3 = mo_v G H26 a0 3 := mo_v_F (r := 49) hB.1 hf h0 rfl ro_49 (by decide) (by decide)
      have vv_H47_4 : mo_v G H47 a0 4 = mo_v G H26 a0 4 := mo_v_F (r := 50) hB.1 hf h0 rfl ro_50 (by decide) (by decide)
      have vv_H47_31 : mo_v G H47 a0 31 = mo_v G H26 a0 31 := mo_v_F (r := 61) hB.1 hf h0 rfl ro_61 (by decide) (by decide)
      replace hF := hF.trans (dv_bn2 (z47_1))
      refine W.eq (g2 := F0 m 50 ls []) rfl ?_
      refine lv_aload_n hx hb gX12_law_3.2.2.2.1 rfl (lv_at hl 0 rfl) ?_
      refine th_getK hC cf_X12 hB.1 h0 ro_46 rfl (j := 2) (by decide) mm6 kf_X12_28 gX12_law_3.2.2.2.2.1 ?_
      refine lv_bipush (v := 71) hx hb gX12_law_3.2.2.2.2.2.1 (by decide) ?_
      refine lv_dup2_11 hx hb gX12_law_3.2.2.2.2.2.2.1 rfl rfl ?_
      refine th_ialdF hC hB.1 hb1 ro_48 rfl tk_71 (by omega) (by omega) (ek_told (by omega) (by omega)) gX12_law_3.2.2.2.2.2.2.2 (fun x7 mx7 lx7 ux7 => ?_)
      replace hF := hF.trans (dv_bn (dv_aldI hB.1 hU hb1 ow_48 (z := 71) mx7 (by omega)))
      have vgx7 : mo_v G H47 a0 2 71 = x7.toInt := by rw [show (71 : Int) = 71 by omega]; exact mo_vat mm6 mx7 (by omega)
      have e57 : x7.toInt = x5.toInt := by have q9 := vgx7; rw [z47_0 71 (by omega)] at q9; unfold mo_ly at q9; rw [if_neg (by omega), if_neg (by omega)] at q9; omega
      refine lv_iconst (v := 1) hx hb gX12_law_4.1 (by decide) ?_
      refine tr_iadd hx hb gX12_law_4.2.1 (Eq.refl _) tk_1 (by omega) (by omega) (fun x8 ex8 => ?_)
      replace hF := hF.trans (dv_bn (ex8.symm))
      have hIo := hB.1
      refine th_iastF hC hB hb1 (Or.inl hb1) ro_48 rfl (by decide) tk_71 (by omega) (by omega) (by rw [(ek_told (by omega) (by omega))]; exact (th_sI (by omega) (by omega))) gX12_law_4.2.2.1 (fun H60 locs hB hf60 hst60 => ?_)
      have hf := hf60
      have mm9 := (th_F_o hf h0 ro_46 (j := 2) (by decide) (by decide)).trans mm6
      have hRC := th_RC_F hB.1 hRC hf (th_T_s hb1 ro_48 hst60) (by decide)
      have fv_H60_33 : mo_f G H60 a0 33 = mo_f G H47 a0 33 := mo_f_F hf h0 (by decide) (by decide)
      have vv_H60_3 : mo_v G H60 a0 3 = mo_v G H47 a0 3 := mo_v_F (r := 49) hB.1 hf h0 rfl ro_49 (by decide) (by decide)
      have vv_H60_4 : mo_v G H60 a0 4 = mo_v G H47 a0 4 := mo_v_F (r := 50) hB.1 hf h0 rfl ro_50 (by decide) (by decide)
      have vv_H60_31 : mo_v G H60 a0 31 = mo_v G H47 a0 31 := mo_v_F (r := 61) hB.1 hf h0 rfl ro_61 (by decide) (by decide)
      replace hF := hF.trans (dv_bn (dv_stoI hIo hB.1 hU hb1 ow_48 (i := 71) hst60 (Eq.refl _) (by omega)))
      have vs60 : mo_v G H60 a0 2 = mo_u (mo_v G H47 a0 2) 71 x8.toInt := by rw [show (71 : Int) = 71 by omega]; exact mo_v_st h0 hb1 (by decide) mm6 hst60 (by omega)
      have hR : th_RN a0 G Γ H60 := ⟨hRC, by rw [vv_H60_3, vv_H47_3, vv_H60_4, vv_H47_4, vv_H60_31, vv_H47_31, fv_H60_33, fv_H47_33]; exact mo_ok_law hR.2 vgx5 (by omega) (by omega) (mo_f_rg hB26.1 h0 (j := 18) rfl).2 (z26_0 (by omega)) (fun z z0 z1 => by rw [vs60]; by_cases q9 : z = 71; rw [mo_us q9, if_pos q9]; omega; rw [mo_un q9, if_neg q9]; exact z47_0 z z1)⟩
      refine lv_aload_n hx hb gX12_law_4.2.2.2.1 rfl (lv_at hl 0 rfl) ?_
      refine lv_aload_n hx hb gX12_law_4.2.2.2.2.1 rfl (lv_at hl 0 rfl) ?_
      refine th_getK hC cf_X12 hB.1 h0 ro_46 rfl (j := 2) (by decide) mm9 kf_X12_28 gX12_law_4.2.2.2.2.2.1 ?_
      refine lv_bipush (v := 71) hx hb gX12_law_4.2.2.2.2.2.2.1 (by decide) ?_
      refine th_ialdF hC hB.1 hb1 ro_48 rfl tk_71 (by omega) (by omega) (ek_told (by omega) (by omega)) gX12_law_4.2.2.2.2.2.2.2 (fun x10 mx10 lx10 ux10 => ?_)
      replace hF := hF.trans (dv_bn (dv_aldI hB.1 hU hb1 ow_48 (z := 71) mx10 (by omega)))
      have vgx10 : mo_v G H60 a0 2 71 = x10.toInt := by rw [show (71 : Int) = 71 by omega]; exact mo_vat mm9 mx10 (by omega)
      refine lv_iconst (v := 1) hx hb gX12_law_5.1 (by decide) ?_
      refine tr_isub hx hb gX12_law_5.2.1 (Eq.refl _) tk_1 (by omega) (by omega) (fun x11 ex11 => ?_)
      replace hF := hF.trans (dv_bn (ex11.symm))
      refine th_call (th_runV (As := [.int x11]) (rest := []) hC mf_X12_good km_X12_14 im_X12_good se_X12_good (c_X12_good l G Γ H60 hB.1 hR.1 hU a0 h0 x11) rfl rfl ⟨Nat.le_of_ble_eq_true rfl, Nat.le_of_ble_eq_true rfl⟩ hB.1 h0 ro_46 rfl rfl hl.1 rfl (Nat.le_of_ble_eq_true rfl) gX12_law_5.2.2.1 ⟨Nat.le_refl _, Nat.le_refl _⟩) hB.2.1 (fun v71 H71 locs hp hz hS => ?_)
      have hRD := hR
      obtain ⟨x12, rfl, q71_0, hI1, hf, hR, z71_0⟩ := hp
      have hR := th_RN_c hR hRD hI1 h0 hf (by decide)
      have hB := th_B_c hB hI1 hS hf (by decide)
      have mm13 := (th_F_o hf h0 ro_46 (j := 2) (by decide) (by decide)).trans mm9
      have fv_H71_33 : mo_f G H71 a0 33 = mo_f G H60 a0 33 := mo_f_F hf h0 (by decide) (by decide)
      have vv_H71_2 : mo_v G H71 a0 2 = mo_v G H60 a0 2 := mo_v_F (r := 48) hB.1 hf h0 rfl ro_48 (by decide) (by decide)
      have vv_H71_3 : mo_v G H71 a0 3 = mo_v G H60 a0 3 := mo_v_F (r := 49) hB.1 hf h0 rfl ro_49 (by decide) (by decide)
      have vv_H71_4 : mo_v G H71 a0 4 = mo_v G H60 a0 4 := mo_v_F (r := 50) hB.1 hf h0 rfl ro_50 (by decide) (by decide)
      have vv_H71_31 : mo_v G H71 a0 31 = mo_v G H60 a0 31 := mo_v_F (r := 61) hB.1 hf h0 rfl ro_61 (by decide) (by decide)
      replace hF := hF.trans (dv_bn2 (z71_0))
      refine W.eq (g2 := F0 m 74 ls [.int x12]) rfl ?_
      exact th_iret hC hH hr hlocks rfl hB.2.1 ⟨_, rfl, hB.1, hB.2.2, hR, (hF0.symm.trans hF)⟩ gX12_law_5.2.2.2
    · replace hF := hF.trans (if_neg (not_not_intro c29))
      refine lv_aload_n hx hb gX12_law_2.2.1 rfl (lv_at hl 0 rfl) ?_
      refine lv_bipush (v := (-6)) hx hb gX12_law_2.2.2.1 (by decide) ?_
      refine th_call (th_runV (As := [.int (-6)]) (rest := []) hC mf_X12_refuses km_X12_109 im_X12_refuses se_X12_refuses (c_X12_refuses l G Γ H26 hB.1 hR.1 hU a0 h0 (-6) (by decide) (by decide)) rfl rfl ⟨Nat.le_of_ble_eq_true rfl, Nat.le_of_ble_eq_true rfl⟩ hB.1 h0 ro_46 rfl rfl hl.1 rfl (Nat.le_of_ble_eq_true rfl) gX12_law_2.2.2.2.1 ⟨Nat.le_refl _, Nat.le_refl _⟩) hB.2.1 (fun v35 H35 locs hp hz hS => ?_)
      have hRD := hR
      obtain ⟨x14, rfl, q35_0, hI1, hf, hR, z35_0⟩ := hp
      have hR := th_RN_c hR hRD hI1 h0 hf (by decide)
      have hB := th_B_c hB hI1 hS hf (by decide)
      have mm15 := (th_F_o hf h0 ro_46 (j := 2) (by decide) (by decide)).trans mm4
      have fv_H35_33 : mo_f G H35 a0 33 = mo_f G H26 a0 33 := mo_f_F hf h0 (by decide) (by decide)
      have vv_H35_2 : mo_v G H35 a0 2 = mo_v G H26 a0 2 := mo_v_F (r := 48) hB.1 hf h0 rfl ro_48 (by decide) (by decide)
      have vv_H35_3 : mo_v G H35 a0 3 = mo_v G H26 a0 3 := mo_v_F (r := 49) hB.1 hf h0 rfl ro_49 (by decide) (by decide)
      have vv_H35_4 : mo_v G H35 a0 4 = mo_v G H26 a0 4 := mo_v_F (r := 50) hB.1 hf h0 rfl ro_50 (by decide) (by decide)
      have vv_H35_31 : mo_v G H35 a0 31 = mo_v G H26 a0 31 := mo_v_F (r := 61) hB.1 hf h0 rfl ro_61 (by decide) (by decide)
      have w35_0 := tk_m6
      have zf35 := z35_0
      rw [tk_m6] at zf35
      replace hF := hF.trans (dv_bn2 (zf35))
      refine W.eq (g2 := F0 m 38 ls [.int x14]) rfl ?_
      exact th_iret hC hH hr hlocks rfl hB.2.1 ⟨_, rfl, hB.1, hB.2.2, hR, (hF0.symm.trans hF)⟩ gX12_law_2.2.2.2.2.1
  · replace hF := hF.trans (if_neg (not_not_intro c9))
    refine lv_aload_n hx hb gX12_law_0.2.2.2.2.2.2.1 rfl (lv_at hl 0 rfl) ?_
    refine lv_iconst (v := 0) hx hb gX12_law_0.2.2.2.2.2.2.2 (by decide) ?_
    refine th_put hC cf_X12 hB h0 (Or.inl h0) ro_46 rfl (j := 13) rfl (th_sI (by decide) (by decide)) (by decide) rfl rfl rfl kf_X12_169 gX12_law_1.1 (fun H14 locs hB hf hst14 => ?_)
    have mm16 := (th_F_o hf h0 ro_46 (j := 2) (by decide) (by decide)).trans mb1
    have hR := th_RN_F hB.1 hR h0 hf (th_T_s h0 ro_46 hst14) (by decide)
    have fv_H14_33 : mo_f G H14 a0 33 = mo_f G H0 a0 33 := mo_f_F hf h0 (by decide) (by decide)
    have vv_H14_2 : mo_v G H14 a0 2 = mo_v G H0 a0 2 := mo_v_F (r := 48) hB.1 hf h0 rfl ro_48 (by decide) (by decide)
    have vv_H14_3 : mo_v G H14 a0 3 = mo_v G H0 a0 3 := mo_v_F (r := 49) hB.1 hf h0 rfl ro_49 (by decide) (by decide)
    have vv_H14_4 : mo_v G H14 a0 4 = mo_v G H0 a0 4 := mo_v_F (r := 50) hB.1 hf h0 rfl ro_50 (by decide) (by decide)
    have vv_H14_31 : mo_v G H14 a0 31 = mo_v G H0 a0 31 := mo_v_F (r := 61) hB.1 hf h0 rfl ro_61 (by decide) (by decide)
    replace hF := hF.trans (dv_bn (dv_putI hB.1 h0 ro_46 (j := 13) rfl (th_apart hC cf_X12) hst14 tk_0 (by decide)))
    refine lv_aload_n hx hb gX12_law_1.2.1 rfl (lv_at hl 0 rfl) ?_
    refine lv_bipush (v := (-5)) hx hb gX12_law_1.2.2.1 (by decide) ?_
    refine th_call (th_runV (As := [.int (-5)]) (rest := []) hC mf_X12_refuses km_X12_109 im_X12_refuses se_X12_refuses (c_X12_refuses l G Γ H14 hB.1 hR.1 hU a0 h0 (-5) (by decide) (by decide)) rfl rfl ⟨Nat.le_of_ble_eq_true rfl, Nat.le_of_ble_eq_true rfl⟩ hB.1 h0 ro_46 rfl rfl hl.1 rfl (Nat.le_of_ble_eq_true rfl) gX12_law_1.2.2.2.1 ⟨Nat.le_refl _, Nat.le_refl _⟩) hB.2.1 (fun v20 H20 locs hp hz hS => ?_)
    have hRD := hR
    obtain ⟨x17, rfl, q20_0, hI1, hf, hR, z20_0⟩ := hp
    have hR := th_RN_c hR hRD hI1 h0 hf (by decide)
    have hB := th_B_c hB hI1 hS hf (by decide)
    have mm18 := (th_F_o hf h0 ro_46 (j := 2) (by decide) (by decide)).trans mm16
    have fv_H20_33 : mo_f G H20 a0 33 = mo_f G H14 a0 33 := mo_f_F hf h0 (by decide) (by decide)
    have vv_H20_2 : mo_v G H20 a0 2 = mo_v G H14 a0 2 := mo_v_F (r := 48) hB.1 hf h0 rfl ro_48 (by decide) (by decide)
    have vv_H20_3 : mo_v G H20 a0 3 = mo_v G H14 a0 3 := mo_v_F (r := 49) hB.1 hf h0 rfl ro_49 (by decide) (by decide)
    have vv_H20_4 : mo_v G H20 a0 4 = mo_v G H14 a0 4 := mo_v_F (r := 50) hB.1 hf h0 rfl ro_50 (by decide) (by decide)
    have vv_H20_31 : mo_v G H20 a0 31 = mo_v G H14 a0 31 := mo_v_F (r := 61) hB.1 hf h0 rfl ro_61 (by decide) (by decide)
    have w20_0 := tk_m5
    have zf20 := z20_0
    rw [tk_m5] at zf20
    replace hF := hF.trans (dv_bn2 (zf20))
    refine W.eq (g2 := F0 m 23 ls [.int x17]) rfl ?_
    exact th_iret hC hH hr hlocks rfl hB.2.1 ⟨_, rfl, hB.1, hB.2.2, hR, (hF0.symm.trans hF)⟩ gX12_law_1.2.2.2.2.1

set_option maxHeartbeats 4000000 in
set_option maxRecDepth 100000 in
theorem c_X12_years (l : Launch) (G : th_G) (Γ : th_Ga) (H0 : Heap) (hI : th_I G Γ H0) (hU : dv_U Γ) (a0 : Nat) (h0 : Γ a0 = (46, 0)) (hR : th_RN a0 G Γ H0) (p1 : Int32) (p2 : Int32) : Met l yX12_years (.code yX12_years cX12_years 8 (some FieldType.int) :: th_tb) ({ frames := 53, cells := 0, slots := 0, locals := 1674 } : Room) (th_P [.ref a0, .int p1, .int p2] G H0) (th_Q (fun (v : Option Value) (H1 : Heap) => ∃ r : Int32, v = some (.int r) ∧ th_I G Γ H1 ∧ th_F G Γ [(47, 0), (46, 0), (48, 0), (51, 0), (70, 0), (60, 0), (59, 0), (46, 55), (46, 56), (46, 22), (46, 24), (58, 0), (46, 23), (46, 25)] H0 H1 ∧ th_RN a0 G Γ H1 ∧ (f_X12_years (dv G Γ H0) (a0 : Int) p1.toInt p2.toInt = (dv G Γ H1, r.toInt))) G) 0 0 (fun q => G.1.2.2 ≤ q) := by
  refine th_met RX12 (by decide) rfl (Nat.le_of_ble_eq_true rfl) ?_
  intro p e s m below meth c hC hH hr hlocks hnm ls hl
  have hx := hC.1
  have hb := hC.2.1
  have hB : th_B G Γ Γ [(47, 0), (46, 0), (48, 0), (51, 0), (70, 0), (60, 0), (59, 0), (46, 55), (46, 56), (46, 22), (46, 24), (58, 0), (46, 23), (46, 25)] H0 H0 [] := ⟨hI, va_S.rf, th_F_rf⟩
  have hl : lv_has ls 8 [(0, .ref a0), (1, .int p1), (2, .int p2)] := hl
  have lp1 := ti_lo p1; have up1 := ti_hi p1
  have lp2 := ti_lo p2; have up2 := ti_hi p2
  obtain ⟨F, hF0⟩ : ∃ F, F = f_X12_years (dv G Γ H0) ((a0 : Int)) (p1.toInt) (p2.toInt) := ⟨_, rfl⟩
  have hF := hF0.trans (f_X12_years.eq_1 (dv G Γ H0) ((a0 : Int)) (p1.toInt) (p2.toInt))
  refine lv_iload_n hx hb gX12_years_0.1 rfl (lv_at hl 1 rfl) ?_
  have hRs := hR
  refine lv_iconst (v := 0) hx hb gX12_years_0.2.1 (by decide) ?_
  refine lv_ldc (v := 1000000) hx hb hC.2.2.2.1 (hC.2.2.2.2.1 _ kw_1623) gX12_years_0.2.2.1 ?_
  refine th_call (th_runS (As := [.int p1, .int 0, .int 1000000]) (rest := []) hC mf_X12_lies km_X12_18 st_X12_lies (c_X12_lies l G Γ H0 hB.1 hU p1 0 1000000) rfl rfl ⟨Nat.le_of_ble_eq_true rfl, Nat.le_of_ble_eq_true rfl⟩ rfl hl.1 rfl (Nat.le_of_ble_eq_true rfl) gX12_years_0.2.2.2.1 ⟨Nat.le_refl _, Nat.le_refl _⟩) hB.2.1 (fun v4 H4 locs hp hz hS => ?_)
  obtain ⟨x1, rfl, lx1, ux1, q4_0, q4_1, q4_2, rfl⟩ := hp
  have hB := th_B_s hB hS
  have w4_1 := tk_0
  have w4_2 := tk_1000000
  have zf4 := q4_2
  rw [tk_0, tk_1000000] at zf4
  replace hF := hF.trans (dv_bn2 (zf4))
  refine W.eq (g2 := F0 m 7 ls [.int x1]) rfl ?_
  have jn20 : ∀ (locs : List Loc) (ls : Array Slot) , th_B G Γ Γ [(47, 0), (46, 0), (48, 0), (51, 0), (70, 0), (60, 0), (59, 0), (46, 55), (46, 56), (46, 22), (46, 24), (58, 0), (46, 23), (46, 25)] H0 H0 locs → lv_has ls 8 [(0, .ref a0)] → F = f_X12_years_20 (dv G Γ H0) ((a0 : Int)) → W p l e ({ frames := 53, cells := 0, slots := 0, locals := 1674 } : Room) s m ([.ref a0, .int p1, .int p2] : List Value).toArray below meth c H0 locs 0 0 (MQ below (th_Q (fun (v : Option Value) (H1 : Heap) => ∃ r : Int32, v = some (.int r) ∧ th_I G Γ H1 ∧ th_F G Γ [(47, 0), (46, 0), (48, 0), (51, 0), (70, 0), (60, 0), (59, 0), (46, 55), (46, 56), (46, 22), (46, 24), (58, 0), (46, 23), (46, 25)] H0 H1 ∧ th_RN a0 G Γ H1 ∧ (f_X12_years (dv G Γ H0) (a0 : Int) p1.toInt p2.toInt = (dv G Γ H1, r.toInt))) G) ([.ref a0, .int p1, .int p2] : List Value).toArray s 0 0 (fun q => G.1.2.2 ≤ q)) (F0 m 20 ls []) := by
    intro locs ls hB hl hF
    replace hF := hF.trans (f_X12_years_20.eq_1 (dv G Γ H0) ((a0 : Int)))
    refine lv_aload_n hx hb gX12_years_1.2.2.1 rfl (lv_at hl 0 rfl) ?_
    refine lv_iconst (v := (-1)) hx hb gX12_years_1.2.2.2.1 (by decide) ?_
    refine th_call (th_runV (As := [.int (-1)]) (rest := []) hC mf_X12_refuses km_X12_109 im_X12_refuses se_X12_refuses (c_X12_refuses l G Γ H0 hB.1 hR.1 hU a0 h0 (-1) (by decide) (by decide)) rfl rfl ⟨Nat.le_of_ble_eq_true rfl, Nat.le_of_ble_eq_true rfl⟩ hB.1 h0 ro_46 rfl rfl hl.1 rfl (Nat.le_of_ble_eq_true rfl) gX12_years_1.2.2.2.2.1 ⟨Nat.le_refl _, Nat.le_refl _⟩) hB.2.1 (fun v22 H22 locs hp hz hS => ?_)
    have hRD := hR
    obtain ⟨x2, rfl, q22_0, hI1, hf, hR, z22_0⟩ := hp
    have hR := th_RN_c hR hRD hI1 h0 hf (by decide)
    have hB := th_B_c hB hI1 hS hf (by decide)
    have fv_H22_33 : mo_f G H22 a0 33 = mo_f G H0 a0 33 := mo_f_F hf h0 (by decide) (by decide)
    have vv_H22_2 : mo_v G H22 a0 2 = mo_v G H0 a0 2 := mo_v_F (r := 48) hB.1 hf h0 rfl ro_48 (by decide) (by decide)
    have vv_H22_3 : mo_v G H22 a0 3 = mo_v G H0 a0 3 := mo_v_F (r := 49) hB.1 hf h0 rfl ro_49 (by decide) (by decide)
    have vv_H22_4 : mo_v G H22 a0 4 = mo_v G H0 a0 4 := mo_v_F (r := 50) hB.1 hf h0 rfl ro_50 (by decide) (by decide)
    have vv_H22_31 : mo_v G H22 a0 31 = mo_v G H0 a0 31 := mo_v_F (r := 61) hB.1 hf h0 rfl ro_61 (by decide) (by decide)
    have vv_H22_5 : mo_v G H22 a0 5 = mo_v G H0 a0 5 := mo_v_F (r := 51) hB.1 hf h0 rfl ro_51 (by decide) (by decide)
    have w22_0 := tk_m1
    have zf22 := z22_0
    rw [tk_m1] at zf22
    replace hF := hF.trans (dv_bn2 (zf22))
    refine W.eq (g2 := F0 m 25 ls [.int x2]) rfl ?_
    exact th_iret hC hH hr hlocks rfl hB.2.1 ⟨_, rfl, hB.1, hB.2.2, hR, (hF0.symm.trans hF)⟩ gX12_years_1.2.2.2.2.2.1
  refine tr_if_eq (tgt := 20) hx hb gX12_years_0.2.2.2.2.1 (by decide) (Eq.refl _) (fun c7 => ?_) (fun c7 => ?_)
  · replace hF := hF.trans (if_pos c7)
    exact jn20 locs ls hB (lv_sub hl [0] rfl) hF
  · replace hF := hF.trans (if_neg c7)
    refine lv_iload_n hx hb gX12_years_0.2.2.2.2.2.1 rfl (lv_at hl 2 rfl) ?_
    refine lv_iconst (v := 1) hx hb gX12_years_0.2.2.2.2.2.2.1 (by decide) ?_
    refine lv_bipush (v := 60) hx hb gX12_years_0.2.2.2.2.2.2.2 (by decide) ?_
    refine th_call (th_runS (As := [.int p2, .int 1, .int 60]) (rest := []) hC mf_X12_lies km_X12_18 st_X12_lies (c_X12_lies l G Γ H0 hB.1 hU p2 1 60) rfl rfl ⟨Nat.le_of_ble_eq_true rfl, Nat.le_of_ble_eq_true rfl⟩ rfl hl.1 rfl (Nat.le_of_ble_eq_true rfl) gX12_years_1.1 ⟨Nat.le_refl _, Nat.le_refl _⟩) hB.2.1 (fun v14 H14 locs hp hz hS => ?_)
    obtain ⟨x3, rfl, lx3, ux3, q14_0, q14_1, q14_2, rfl⟩ := hp
    have hB := th_B_s hB hS
    have w14_1 := tk_1
    have w14_2 := tk_60
    have zf14 := q14_2
    rw [tk_1, tk_60] at zf14
    replace hF := hF.trans (dv_bn2 (zf14))
    refine W.eq (g2 := F0 m 17 ls [.int x3]) rfl ?_
    refine tr_if_ne (tgt := 26) hx hb gX12_years_1.2.1 (by decide) (Eq.refl _) (fun c17 => ?_) (fun c17 => ?_)
    · replace hF := hF.trans (if_pos c17)
      refine lv_aload_n hx hb gX12_years_1.2.2.2.2.2.2.1 rfl (lv_at hl 0 rfl) ?_
      refine th_call (th_runV (As := []) (rest := []) hC mf_X12_many km_X12_115 im_X12_many se_X12_many (c_X12_many l G Γ H0 hB.1 hU a0 h0) rfl rfl ⟨Nat.le_of_ble_eq_true rfl, Nat.le_of_ble_eq_true rfl⟩ hB.1 h0 ro_46 rfl rfl hl.1 rfl (Nat.le_of_ble_eq_true rfl) gX12_years_1.2.2.2.2.2.2.2 ⟨Nat.le_refl _, Nat.le_refl _⟩) hB.2.1 (fun v27 H27 locs hp hz hS => ?_)
      obtain ⟨x4, rfl, lx4, ux4, q27_0, q27_1, rfl⟩ := hp
      have hB := th_B_s hB hS
      replace hF := hF.trans (dv_bn2 (q27_1))
      refine W.eq (g2 := F0 m 30 ls [.int x4]) rfl ?_
      refine tr_if_ne (tgt := 40) hx hb gX12_years_2.1 (by decide) (Eq.refl _) (fun c30 => ?_) (fun c30 => ?_)
      · replace hF := hF.trans (if_pos c30)
        refine lv_aload_n hx hb gX12_years_2.2.2.2.2.2.1 rfl (lv_at hl 0 rfl) ?_
        refine lv_iload_n hx hb gX12_years_2.2.2.2.2.2.2.1 rfl (lv_at hl 1 rfl) ?_
        refine th_put hC cf_X12 hB h0 (Or.inl h0) ro_46 rfl (j := 56) rfl (th_sI (by omega) (by omega)) (by decide) rfl rfl rfl kf_X12_516 gX12_years_2.2.2.2.2.2.2.2 (fun H42 locs hB hf hst42 => ?_)
        have hR := th_RN_F hB.1 hR h0 hf (th_T_s h0 ro_46 hst42) (by decide)
        have fv_H42_33 : mo_f G H42 a0 33 = mo_f G H0 a0 33 := mo_f_F hf h0 (by decide) (by decide)
        have vv_H42_2 : mo_v G H42 a0 2 = mo_v G H0 a0 2 := mo_v_F (r := 48) hB.1 hf h0 rfl ro_48 (by decide) (by decide)
        have vv_H42_3 : mo_v G H42 a0 3 = mo_v G H0 a0 3 := mo_v_F (r := 49) hB.1 hf h0 rfl ro_49 (by decide) (by decide)
        have vv_H42_4 : mo_v G H42 a0 4 = mo_v G H0 a0 4 := mo_v_F (r := 50) hB.1 hf h0 rfl ro_50 (by decide) (by decide)
        have vv_H42_31 : mo_v G H42 a0 31 = mo_v G H0 a0 31 := mo_v_F (r := 61) hB.1 hf h0 rfl ro_61 (by decide) (by decide)
        have vv_H42_5 : mo_v G H42 a0 5 = mo_v G H0 a0 5 := mo_v_F (r := 51) hB.1 hf h0 rfl ro_51 (by decide) (by decide)
        replace hF := hF.trans (dv_bn (dv_putI hB.1 h0 ro_46 (j := 56) rfl (th_apart hC cf_X12) hst42 (Eq.refl _) (by decide)))
        refine lv_aload_n hx hb gX12_years_3.1 rfl (lv_at hl 0 rfl) ?_
        refine lv_aload_n hx hb gX12_years_3.2.1 rfl (lv_at hl 0 rfl) ?_
        refine th_call (th_runV (As := []) (rest := [.ref a0]) hC mf_X12_many km_X12_115 im_X12_many se_X12_many (c_X12_many l G Γ H42 hB.1 hU a0 h0) rfl rfl ⟨Nat.le_of_ble_eq_true rfl, Nat.le_of_ble_eq_true rfl⟩ hB.1 h0 ro_46 rfl rfl hl.1 rfl (Nat.le_of_ble_eq_true rfl) gX12_years_3.2.2.1 ⟨Nat.le_refl _, Nat.le_refl _⟩) hB.2.1 (fun v47 H47 locs hp hz hS => ?_)
        obtain ⟨x5, rfl, lx5, ux5, q47_0, q47_1, rfl⟩ := hp
        have hB := th_B_s hB hS
        replace hF := hF.trans (dv_bn2 (q47_1))
        refine W.eq (g2 := F0 m 50 ls [.int x5, .ref a0]) rfl ?_
        refine th_put hC cf_X12 hB h0 (Or.inl h0) ro_46 rfl (j := 55) rfl (th_sI (by omega) (by omega)) (by decide) rfl rfl rfl kf_X12_106 gX12_years_3.2.2.2.1 (fun H50 locs hB hf hst50 => ?_)
        have hR := th_RN_F hB.1 hR h0 hf (th_T_s h0 ro_46 hst50) (by decide)
        have fv_H50_33 : mo_f G H50 a0 33 = mo_f G H42 a0 33 := mo_f_F hf h0 (by decide) (by decide)
        have vv_H50_2 : mo_v G H50 a0 2 = mo_v G H42 a0 2 := mo_v_F (r := 48) hB.1 hf h0 rfl ro_48 (by decide) (by decide)
        have vv_H50_3 : mo_v G H50 a0 3 = mo_v G H42 a0 3 := mo_v_F (r := 49) hB.1 hf h0 rfl ro_49 (by decide) (by decide)
        have vv_H50_4 : mo_v G H50 a0 4 = mo_v G H42 a0 4 := mo_v_F (r := 50) hB.1 hf h0 rfl ro_50 (by decide) (by decide)
        have vv_H50_31 : mo_v G H50 a0 31 = mo_v G H42 a0 31 := mo_v_F (r := 61) hB.1 hf h0 rfl ro_61 (by decide) (by decide)
        have vv_H50_5 : mo_v G H50 a0 5 = mo_v G H42 a0 5 := mo_v_F (r := 51) hB.1 hf h0 rfl ro_51 (by decide) (by decide)
        replace hF := hF.trans (dv_bn (dv_putI hB.1 h0 ro_46 (j := 55) rfl (th_apart hC cf_X12) hst50 (Eq.refl _) (by decide)))
        refine lv_aload_n hx hb gX12_years_3.2.2.2.2.1 rfl (lv_at hl 0 rfl) ?_
        refine lv_iconst (v := 0) hx hb gX12_years_3.2.2.2.2.2.1 (by decide) ?_
        refine th_call (th_runV (As := [.int 0]) (rest := []) hC mf_X12_laysAside km_X12_477 im_X12_laysAside se_X12_laysAside (c_X12_laysAside l G Γ H50 hB.1 hR.1 hU a0 h0 0 (by decide) (by decide)) rfl rfl ⟨Nat.le_of_ble_eq_true rfl, Nat.le_of_ble_eq_true rfl⟩ hB.1 h0 ro_46 rfl rfl hl.1 rfl (Nat.le_of_ble_eq_true rfl) gX12_years_3.2.2.2.2.2.2.1 ⟨Nat.le_refl _, Nat.le_refl _⟩) hB.2.1 (fun v55 H55 locs hp hz hS => ?_)
        have hRD := hR
        obtain ⟨rfl, hI1, hf, hR, z55_0, z55_1⟩ := hp
        have hR := th_RN_c hR hRD hI1 h0 hf (by decide)
        have hB := th_B_c hB hI1 hS hf (by decide)
        have fv_H55_33 : mo_f G H55 a0 33 = mo_f G H50 a0 33 := mo_f_F hf h0 (by decide) (by decide)
        have vv_H55_2 : mo_v G H55 a0 2 = mo_v G H50 a0 2 := mo_v_F (r := 48) hB.1 hf h0 rfl ro_48 (by decide) (by decide)
        have vv_H55_3 : mo_v G H55 a0 3 = mo_v G H50 a0 3 := mo_v_F (r := 49) hB.1 hf h0 rfl ro_49 (by decide) (by decide)
        have vv_H55_4 : mo_v G H55 a0 4 = mo_v G H50 a0 4 := mo_v_F (r := 50) hB.1 hf h0 rfl ro_50 (by decide) (by decide)
        have vv_H55_31 : mo_v G H55 a0 31 = mo_v G H50 a0 31 := mo_v_F (r := 61) hB.1 hf h0 rfl ro_61 (by decide) (by decide)
        have zf55 := z55_1
        rw [tk_0] at zf55
        replace hF := hF.trans (dv_bn2 (zf55))
        refine W.eq (g2 := F0 m 58 ls []) rfl ?_
        refine lv_iconst (v := 0) hx hb gX12_years_3.2.2.2.2.2.2.2 (by decide) ?_
        refine lv_istore_n (lv' := [(3, .int 0), (0, .ref a0), (1, .int p1), (2, .int p2)]) hx hb gX12_years_4.1 rfl hl (by decide) rfl (fun ls hl => ?_)
        have lp60 : ∀ (n60 : Nat) (H60 : Heap) (locs : List Loc) (ls : Array Slot) (j60_3 : Int32), th_B G Γ Γ [(47, 0), (46, 0), (48, 0), (51, 0), (70, 0), (60, 0), (59, 0), (46, 55), (46, 56), (46, 22), (46, 24), (58, 0), (46, 23), (46, 25)] H0 H60 locs → th_RN a0 G Γ H60 → lv_has ls 8 [(0, .ref a0), (2, .int p2), (3, .int j60_3)] → F = dv_lp f_X12_years_60b (dv G Γ H60, (a0 : Int), p2.toInt, j60_3.toInt) → 0 ≤ j60_3.toInt → j60_3.toInt ≤ 60 → (∀ z : Int, 29 ≤ z → mo_v G H60 a0 2 z = mo_v G H0 a0 2 z) → (∀ i : Int, 0 ≤ i → i < 29 → mo_v G H60 a0 5 i = mo_v G H0 a0 2 i) → (2147483648 : Int) - j60_3.toInt ≤ (n60 : Int) → W p l e ({ frames := 53, cells := 0, slots := 0, locals := 1674 } : Room) s m ([.ref a0, .int p1, .int p2] : List Value).toArray below meth c H60 locs 0 0 (MQ below (th_Q (fun (v : Option Value) (H1 : Heap) => ∃ r : Int32, v = some (.int r) ∧ th_I G Γ H1 ∧ th_F G Γ [(47, 0), (46, 0), (48, 0), (51, 0), (70, 0), (60, 0), (59, 0), (46, 55), (46, 56), (46, 22), (46, 24), (58, 0), (46, 23), (46, 25)] H0 H1 ∧ th_RN a0 G Γ H1 ∧ (f_X12_years (dv G Γ H0) (a0 : Int) p1.toInt p2.toInt = (dv G Γ H1, r.toInt))) G) ([.ref a0, .int p1, .int p2] : List Value).toArray s 0 0 (fun q => G.1.2.2 ≤ q)) (F0 m 60 ls []) := by
          intro n60
          induction n60 with
          | zero => intro H60 locs ls j60_3 hB hR hl hF g60_0 g60_1 g60_2 g60_3 hm60; exact absurd hm60 (by have := ti_hi j60_3; omega)
          | succ n60 ih60 =>
            intro H60 locs ls j60_3 hB hR hl hF g60_0 g60_1 g60_2 g60_3 hm60
            have lj60_3 := ti_lo j60_3; have uj60_3 := ti_hi j60_3
            have fv6_33 : mo_f G H60 a0 33 = mo_f G H0 a0 33 := mo_f_F hB.2.2 h0 (by decide) (by decide)
            have vw_H60_3 : mo_v G H60 a0 3 = mo_v G H0 a0 3 := mo_v_F (r := 49) hB.1 hB.2.2 h0 rfl ro_49 (by decide) (by decide)
            have vw_H60_4 : mo_v G H60 a0 4 = mo_v G H0 a0 4 := mo_v_F (r := 50) hB.1 hB.2.2 h0 rfl ro_50 (by decide) (by decide)
            have vw_H60_31 : mo_v G H60 a0 31 = mo_v G H0 a0 31 := mo_v_F (r := 61) hB.1 hB.2.2 h0 rfl ro_61 (by decide) (by decide)
            have hm60 : (2147483648 : Int) - j60_3.toInt ≤ (n60 : Int) + 1 := by omega
            replace hF := hF.trans (dv_lp_eq)
            replace hF := hF.trans (congrArg (dv_k f_X12_years_60b) (f_X12_years_60c.eq_1 (dv G Γ H60) ((a0 : Int)) (p2.toInt) (j60_3.toInt)))
            refine lv_iload_n hx hb gX12_years_4.2.1 rfl (lv_at hl 2 rfl) ?_
            refine lv_iload_n hx hb gX12_years_4.2.2.1 rfl (lv_at hl 1 rfl) ?_
            have jn174 : ∀ (locs : List Loc) (ls : Array Slot) , th_B G Γ Γ [(47, 0), (46, 0), (48, 0), (51, 0), (70, 0), (60, 0), (59, 0), (46, 55), (46, 56), (46, 22), (46, 24), (58, 0), (46, 23), (46, 25)] H0 H60 locs → lv_has ls 8 [(0, .ref a0)] → F = dv_k f_X12_years_60b (f_X12_years_174 (dv G Γ H60) ((a0 : Int))) → W p l e ({ frames := 53, cells := 0, slots := 0, locals := 1674 } : Room) s m ([.ref a0, .int p1, .int p2] : List Value).toArray below meth c H60 locs 0 0 (MQ below (th_Q (fun (v : Option Value) (H1 : Heap) => ∃ r : Int32, v = some (.int r) ∧ th_I G Γ H1 ∧ th_F G Γ [(47, 0), (46, 0), (48, 0), (51, 0), (70, 0), (60, 0), (59, 0), (46, 55), (46, 56), (46, 22), (46, 24), (58, 0), (46, 23), (46, 25)] H0 H1 ∧ th_RN a0 G Γ H1 ∧ (f_X12_years (dv G Γ H0) (a0 : Int) p1.toInt p2.toInt = (dv G Γ H1, r.toInt))) G) ([.ref a0, .int p1, .int p2] : List Value).toArray s 0 0 (fun q => G.1.2.2 ≤ q)) (F0 m 174 ls []) := by
              intro locs ls hB hl hF
              replace hF := hF.trans (congrArg (dv_k f_X12_years_60b) (f_X12_years_174.eq_1 (dv G Γ H60) ((a0 : Int))))
              refine lv_aload_n hx hb gX12_years_11.2.2.2.1 rfl (lv_at hl 0 rfl) ?_
              refine th_call (th_runV (As := []) (rest := []) hC mf_X12_bareMany km_X12_323 im_X12_bareMany se_X12_bareMany (c_X12_bareMany l G Γ H60 hB.1 hU a0 h0) rfl rfl ⟨Nat.le_of_ble_eq_true rfl, Nat.le_of_ble_eq_true rfl⟩ hB.1 h0 ro_46 rfl rfl hl.1 rfl (Nat.le_of_ble_eq_true rfl) gX12_years_11.2.2.2.2.1 ⟨Nat.le_refl _, Nat.le_refl _⟩) hB.2.1 (fun v175 H175 locs hp hz hS => ?_)
              obtain ⟨x7, rfl, lx7, ux7, q175_0, q175_1, rfl⟩ := hp
              have hB := th_B_s hB hS
              replace hF := hF.trans (congrArg (dv_k f_X12_years_60b) (dv_bn2 (q175_1)))
              refine W.eq (g2 := F0 m 178 ls [.int x7]) rfl ?_
              refine lv_istore_n (lv' := [(3, .int x7), (0, .ref a0)]) hx hb gX12_years_11.2.2.2.2.2.1 rfl hl (by decide) rfl (fun ls hl => ?_)
              refine lv_iconst (v := 0) hx hb gX12_years_11.2.2.2.2.2.2.1 (by decide) ?_
              refine lv_istore (lv' := [(4, .int 0), (3, .int x7), (0, .ref a0)]) hx hb gX12_years_11.2.2.2.2.2.2.2 hl (by decide) rfl (fun ls hl => ?_)
              have lp182 : ∀ (n182 : Nat) (H182 : Heap) (locs : List Loc) (ls : Array Slot) (j182_4 : Int32), th_B G Γ Γ [(47, 0), (46, 0), (48, 0), (51, 0), (70, 0), (60, 0), (59, 0), (46, 55), (46, 56), (46, 22), (46, 24), (58, 0), (46, 23), (46, 25)] H0 H182 locs → th_RN a0 G Γ H182 → lv_has ls 8 [(3, .int x7), (0, .ref a0), (4, .int j182_4)] → F = dv_k f_X12_years_60b (dv_lp f_X12_years_182b (dv G Γ H182, x7.toInt, (a0 : Int), j182_4.toInt)) → 0 ≤ j182_4.toInt → j182_4.toInt ≤ 29 → (∀ z : Int, 29 ≤ z → mo_v G H182 a0 2 z = mo_v G H0 a0 2 z) → (∀ i : Int, 0 ≤ i → i < 29 → mo_v G H182 a0 5 i = mo_v G H0 a0 2 i) → (2147483648 : Int) - j182_4.toInt ≤ (n182 : Int) → W p l e ({ frames := 53, cells := 0, slots := 0, locals := 1674 } : Room) s m ([.ref a0, .int p1, .int p2] : List Value).toArray below meth c H182 locs 0 0 (MQ below (th_Q (fun (v : Option Value) (H1 : Heap) => ∃ r : Int32, v = some (.int r) ∧ th_I G Γ H1 ∧ th_F G Γ [(47, 0), (46, 0), (48, 0), (51, 0), (70, 0), (60, 0), (59, 0), (46, 55), (46, 56), (46, 22), (46, 24), (58, 0), (46, 23), (46, 25)] H0 H1 ∧ th_RN a0 G Γ H1 ∧ (f_X12_years (dv G Γ H0) (a0 : Int) p1.toInt p2.toInt = (dv G Γ H1, r.toInt))) G) ([.ref a0, .int p1, .int p2] : List Value).toArray s 0 0 (fun q => G.1.2.2 ≤ q)) (F0 m 182 ls []) := by
                intro n182
                induction n182 with
                | zero => intro H182 locs ls j182_4 hB hR hl hF g182_0 g182_1 g182_2 g182_3 hm182; exact absurd hm182 (by have := ti_hi j182_4; omega)
                | succ n182 ih182 =>
                  intro H182 locs ls j182_4 hB hR hl hF g182_0 g182_1 g182_2 g182_3 hm182
                  have lj182_4 := ti_lo j182_4; have uj182_4 := ti_hi j182_4
                  have fv8_33 : mo_f G H182 a0 33 = mo_f G H0 a0 33 := mo_f_F hB.2.2 h0 (by decide) (by decide)
                  have vw_H182_3 : mo_v G H182 a0 3 = mo_v G H0 a0 3 := mo_v_F (r := 49) hB.1 hB.2.2 h0 rfl ro_49 (by decide) (by decide)
                  have vw_H182_4 : mo_v G H182 a0 4 = mo_v G H0 a0 4 := mo_v_F (r := 50) hB.1 hB.2.2 h0 rfl ro_50 (by decide) (by decide)
                  have vw_H182_31 : mo_v G H182 a0 31 = mo_v G H0 a0 31 := mo_v_F (r := 61) hB.1 hB.2.2 h0 rfl ro_61 (by decide) (by decide)
                  have hm182 : (2147483648 : Int) - j182_4.toInt ≤ (n182 : Int) + 1 := by omega
                  replace hF := hF.trans (congrArg (dv_k f_X12_years_60b) (dv_lp_eq))
                  replace hF := hF.trans (congrArg (dv_k f_X12_years_60b) (congrArg (dv_k f_X12_years_182b) (f_X12_years_182c.eq_1 (dv G Γ H182) (x7.toInt) ((a0 : Int)) (j182_4.toInt))))
                  refine lv_iload hx hb gX12_years_12.1 (lv_at hl 2 rfl) ?_
                  refine lv_bipush (v := 29) hx hb gX12_years_12.2.1 (by decide) ?_
                  refine tr_icmp_ge (tgt := 209) hx hb gX12_years_12.2.2.1 (by decide) (Eq.refl _) tk_29 (fun c186 => ?_) (fun c186 => ?_)
                  · replace hF := hF.trans (congrArg (dv_k f_X12_years_60b) (congrArg (dv_k f_X12_years_182b) (if_pos c186)))
                    refine lv_aload_n hx hb gX12_years_13.2.2.2.2.2.1 rfl (lv_at hl 1 rfl) ?_
                    refine lv_iconst (v := 0) hx hb gX12_years_13.2.2.2.2.2.2.1 (by decide) ?_
                    refine th_call (th_runV (As := [.int 0]) (rest := []) hC mf_X12_takesBack km_X12_486 im_X12_takesBack se_X12_takesBack (c_X12_takesBack l G Γ H182 hB.1 hU a0 h0 (th_NE hR) 0 (by decide) (by decide)) rfl rfl ⟨Nat.le_of_ble_eq_true rfl, Nat.le_of_ble_eq_true rfl⟩ hB.1 h0 ro_46 rfl rfl hl.1 rfl (Nat.le_of_ble_eq_true rfl) gX12_years_13.2.2.2.2.2.2.2 ⟨Nat.le_refl _, Nat.le_refl _⟩) hB.2.1 (fun v211 H211 locs hp hz hS => ?_)
                    have hRD := hR
                    obtain ⟨rfl, hI1, hf, hR, z211_0, z211_1⟩ := hp
                    have hRc211 := hR
                    have hR := hRD
                    have hRC := hRc211.1
                    have hB := th_B_c hB hI1 hS hf (by decide)
                    have fv_H211_33 : mo_f G H211 a0 33 = mo_f G H182 a0 33 := mo_f_F hf h0 (by decide) (by decide)
                    have vv_H211_3 : mo_v G H211 a0 3 = mo_v G H182 a0 3 := mo_v_F (r := 49) hB.1 hf h0 rfl ro_49 (by decide) (by decide)
                    have vv_H211_4 : mo_v G H211 a0 4 = mo_v G H182 a0 4 := mo_v_F (r := 50) hB.1 hf h0 rfl ro_50 (by decide) (by decide)
                    have vv_H211_31 : mo_v G H211 a0 31 = mo_v G H182 a0 31 := mo_v_F (r := 61) hB.1 hf h0 rfl ro_61 (by decide) (by decide)
                    have vv_H211_5 : mo_v G H211 a0 5 = mo_v G H182 a0 5 := mo_v_F (r := 51) hB.1 hf h0 rfl ro_51 (by decide) (by decide)
                    have zf211 := z211_1
                    rw [tk_0] at zf211
                    replace hF := hF.trans (congrArg (dv_k f_X12_years_60b) (congrArg (dv_k f_X12_years_182b) (dv_bn2 (zf211))))
                    refine W.eq (g2 := F0 m 214 ls []) rfl ?_
                    have hR : th_RN a0 G Γ H211 := ⟨hRc211.1, by rw [mo_v_F (j := 3) (r := 49) hB.1 hB.2.2 h0 rfl ro_49 (by decide) (by decide), mo_v_F (j := 4) (r := 50) hB.1 hB.2.2 h0 rfl ro_50 (by decide) (by decide), mo_v_F (j := 31) (r := 61) hB.1 hB.2.2 h0 rfl ro_61 (by decide) (by decide), mo_f_F hB.2.2 h0 (j := 33) (by decide) (by decide)]; exact mo_ok_29 hRs.2 (fun i hi => by rw [z211_0 i, if_neg (by omega)]; exact g182_2 i hi) (mo_geo_ext (fun i a9 b9 => by rw [z211_0 i]; by_cases q9 : 0 ≤ i ∧ i < 29; rw [if_pos q9, show 29 * (0 : Int32).toInt + i = i by (have w0 := tk_0; omega)]; exact g182_3 i a9 (by omega); rw [if_neg q9]; exact g182_2 i (by omega)) hRs.2.1.2.1)⟩
                    refine lv_aload_n hx hb gX12_years_14.1 rfl (lv_at hl 1 rfl) ?_
                    refine lv_iload_n hx hb gX12_years_14.2.1 rfl (lv_at hl 0 rfl) ?_
                    refine th_call (th_runV (As := [.int x7]) (rest := []) hC mf_X12_good km_X12_14 im_X12_good se_X12_good (c_X12_good l G Γ H211 hB.1 hR.1 hU a0 h0 x7) rfl rfl ⟨Nat.le_of_ble_eq_true rfl, Nat.le_of_ble_eq_true rfl⟩ hB.1 h0 ro_46 rfl rfl hl.1 rfl (Nat.le_of_ble_eq_true rfl) gX12_years_14.2.2.1 ⟨Nat.le_refl _, Nat.le_refl _⟩) hB.2.1 (fun v216 H216 locs hp hz hS => ?_)
                    have hRD := hR
                    obtain ⟨x9, rfl, q216_0, hI1, hf, hR, z216_0⟩ := hp
                    have hR := th_RN_c hR hRD hI1 h0 hf (by decide)
                    have hB := th_B_c hB hI1 hS hf (by decide)
                    have fv_H216_33 : mo_f G H216 a0 33 = mo_f G H211 a0 33 := mo_f_F hf h0 (by decide) (by decide)
                    have vv_H216_2 : mo_v G H216 a0 2 = mo_v G H211 a0 2 := mo_v_F (r := 48) hB.1 hf h0 rfl ro_48 (by decide) (by decide)
                    have vv_H216_3 : mo_v G H216 a0 3 = mo_v G H211 a0 3 := mo_v_F (r := 49) hB.1 hf h0 rfl ro_49 (by decide) (by decide)
                    have vv_H216_4 : mo_v G H216 a0 4 = mo_v G H211 a0 4 := mo_v_F (r := 50) hB.1 hf h0 rfl ro_50 (by decide) (by decide)
                    have vv_H216_31 : mo_v G H216 a0 31 = mo_v G H211 a0 31 := mo_v_F (r := 61) hB.1 hf h0 rfl ro_61 (by decide) (by decide)
                    have vv_H216_5 : mo_v G H216 a0 5 = mo_v G H211 a0 5 := mo_v_F (r := 51) hB.1 hf h0 rfl ro_51 (by decide) (by decide)
                    replace hF := hF.trans (congrArg (dv_k f_X12_years_60b) (congrArg (dv_k f_X12_years_182b) (dv_bn2 (z216_0))))
                    refine W.eq (g2 := F0 m 219 ls [.int x9]) rfl ?_
                    replace hF := hF.trans (congrArg (dv_k f_X12_years_60b) (dv_kr))
                    replace hF := hF.trans (dv_kr)
                    exact th_iret hC hH hr hlocks rfl hB.2.1 ⟨_, rfl, hB.1, hB.2.2, hR, (hF0.symm.trans hF)⟩ gX12_years_14.2.2.2
                  · replace hF := hF.trans (congrArg (dv_k f_X12_years_60b) (congrArg (dv_k f_X12_years_182b) (if_neg (Int.not_le.mpr c186))))
                    refine lv_aload_n hx hb gX12_years_12.2.2.2.1 rfl (lv_at hl 1 rfl) ?_
                    refine th_getO (j := 54) (r2 := 70) hC cf_X12 hB.1 h0 ro_46 rfl rfl kf_X12_103 gX12_years_12.2.2.2.2.1 (fun b10 mb10 hb10 => ?_)
                    have sb10 := (th_F_o hB.2.2 h0 ro_46 (j := 54) (by decide) (by decide)).symm.trans mb10
                    refine lv_iload hx hb gX12_years_12.2.2.2.2.2.1 (lv_at hl 2 rfl) ?_
                    refine lv_aload_n hx hb gX12_years_12.2.2.2.2.2.2.1 rfl (lv_at hl 1 rfl) ?_
                    refine th_getO (j := 2) (r2 := 48) hC cf_X12 hB.1 h0 ro_46 rfl rfl kf_X12_28 gX12_years_12.2.2.2.2.2.2.2 (fun b11 mb11 hb11 => ?_)
                    have sb11 := (th_F_o hB.2.2 h0 ro_46 (j := 2) (by decide) (by decide)).symm.trans mb11
                    refine lv_iload hx hb gX12_years_13.1 (lv_at hl 2 rfl) ?_
                    refine th_ialdF hC hB.1 hb11 ro_48 rfl (Eq.refl _) (by omega) (by omega) (ek_a (by omega) (by omega)) gX12_years_13.2.1 (fun x12 mx12 lx12 ux12 => ?_)
                    replace hF := hF.trans (congrArg (dv_k f_X12_years_60b) (congrArg (dv_k f_X12_years_182b) (dv_bn (dv_aldI hB.1 hU hb11 ow_48 (z := j182_4.toInt) mx12 (by omega)))))
                    have vgx12 : mo_v G H182 a0 2 j182_4.toInt = x12.toInt := by rw [show (j182_4.toInt : Int) = j182_4.toInt by omega]; exact mo_vat mb11 mx12 (by omega)
                    have hIo := hB.1
                    refine th_iastF hC hB hb10 (Or.inl hb10) ro_70 rfl (by decide) (Eq.refl _) (by omega) (by omega) th_sIa gX12_years_13.2.2.1 (fun H202 locs hB hf202 hst202 => ?_)
                    have hf := hf202
                    have mm13 := (th_F_o hf h0 ro_46 (j := 54) (by decide) (by decide)).trans mb10
                    have mm14 := (th_F_o hf h0 ro_46 (j := 2) (by decide) (by decide)).trans mb11
                    have hR := th_RN_F hB.1 hR h0 hf (th_T_s hb10 ro_70 hst202) (by decide)
                    have fv_H202_33 : mo_f G H202 a0 33 = mo_f G H182 a0 33 := mo_f_F hf h0 (by decide) (by decide)
                    have vv_H202_2 : mo_v G H202 a0 2 = mo_v G H182 a0 2 := mo_v_F (r := 48) hB.1 hf h0 rfl ro_48 (by decide) (by decide)
                    have vv_H202_3 : mo_v G H202 a0 3 = mo_v G H182 a0 3 := mo_v_F (r := 49) hB.1 hf h0 rfl ro_49 (by decide) (by decide)
                    have vv_H202_4 : mo_v G H202 a0 4 = mo_v G H182 a0 4 := mo_v_F (r := 50) hB.1 hf h0 rfl ro_50 (by decide) (by decide)
                    have vv_H202_31 : mo_v G H202 a0 31 = mo_v G H182 a0 31 := mo_v_F (r := 61) hB.1 hf h0 rfl ro_61 (by decide) (by decide)
                    have vv_H202_5 : mo_v G H202 a0 5 = mo_v G H182 a0 5 := mo_v_F (r := 51) hB.1 hf h0 rfl ro_51 (by decide) (by decide)
                    replace hF := hF.trans (congrArg (dv_k f_X12_years_60b) (congrArg (dv_k f_X12_years_182b) (dv_bn (dv_stoI hIo hB.1 hU hb10 ow_70 (i := j182_4.toInt) hst202 (Eq.refl _) (by omega)))))
                    refine tr_iinc (fun x15 => [(4, .int x15), (3, .int x7), (0, .ref a0)]) hx hb gX12_years_13.2.2.2.1 hl (k := 2) rfl (Eq.refl _) tk_1 (by omega) (by omega) (by decide) (fun _ => rfl) (fun x15 ls ex15 hl => ?_)
                    replace hF := hF.trans (congrArg (dv_k f_X12_years_60b) (congrArg (dv_k f_X12_years_182b) (dv_bn (ex15.symm))))
                    refine lv_goto (tgt := 182) hx hb gX12_years_13.2.2.2.2.1 (by decide) ?_
                    replace hF := hF.trans (congrArg (dv_k f_X12_years_60b) (dv_kl))
                    exact ih182 H202 locs ls x15 hB hR (lv_sub hl [1, 2, 0] rfl) hF (by omega) (by omega) (fun z a9 => by rw [vv_H202_2]; exact g182_2 z a9) (fun i a9 b9 => by rw [vv_H202_5]; exact g182_3 i a9 b9) (by omega)
              exact lp182 ((2147483648 : Int) - (0)).toNat H60 locs ls 0 hB hR (lv_sub hl [1, 2, 0] rfl) (by rw [tk_0]; exact hF) (by decide) (by decide) (fun z a9 => g60_2 z a9) g60_3 (by have w0 := tk_0; omega)
            refine tr_icmp_ge (tgt := 174) hx hb gX12_years_4.2.2.2.1 (by decide) (Eq.refl _) (Eq.refl _) (fun c62 => ?_) (fun c62 => ?_)
            · replace hF := hF.trans (congrArg (dv_k f_X12_years_60b) (if_pos c62))
              exact jn174 locs ls hB (lv_sub hl [0] rfl) hF
            · replace hF := hF.trans (congrArg (dv_k f_X12_years_60b) (if_neg (Int.not_le.mpr c62)))
              refine lv_aload_n hx hb gX12_years_4.2.2.2.2.1 rfl (lv_at hl 0 rfl) ?_
              refine th_getO (j := 2) (r2 := 48) hC cf_X12 hB.1 h0 ro_46 rfl rfl kf_X12_28 gX12_years_4.2.2.2.2.2.1 (fun b16 mb16 hb16 => ?_)
              have sb16 := (th_F_o hB.2.2 h0 ro_46 (j := 2) (by decide) (by decide)).symm.trans mb16
              refine lv_bipush (v := 28) hx hb gX12_years_4.2.2.2.2.2.2.1 (by decide) ?_
              refine th_ialdF hC hB.1 hb16 ro_48 rfl tk_28 (by omega) (by omega) (ek_a (by omega) (by omega)) gX12_years_4.2.2.2.2.2.2.2 (fun x17 mx17 lx17 ux17 => ?_)
              replace hF := hF.trans (congrArg (dv_k f_X12_years_60b) (dv_bn (dv_aldI hB.1 hU hb16 ow_48 (z := 28) mx17 (by omega))))
              have vgx17 : mo_v G H60 a0 2 28 = x17.toInt := by rw [show (28 : Int) = 28 by omega]; exact mo_vat mb16 mx17 (by omega)
              refine lv_sipush (v := 999) hx hb gX12_years_5.1 (by decide) ?_
              refine tr_icmp_ge (tgt := 174) hx hb gX12_years_5.2.1 (by decide) (Eq.refl _) tk_999 (fun c75 => ?_) (fun c75 => ?_)
              · replace hF := hF.trans (congrArg (dv_k f_X12_years_60b) (if_pos c75))
                exact jn174 locs ls hB (lv_sub hl [0] rfl) hF
              · replace hF := hF.trans (congrArg (dv_k f_X12_years_60b) (if_neg (Int.not_le.mpr c75)))
                refine lv_aload_n hx hb gX12_years_5.2.2.1 rfl (lv_at hl 0 rfl) ?_
                refine lv_aload_n hx hb gX12_years_5.2.2.2.1 rfl (lv_at hl 0 rfl) ?_
                refine th_call (th_runV (As := []) (rest := [.ref a0]) hC mf_X12_many km_X12_115 im_X12_many se_X12_many (c_X12_many l G Γ H60 hB.1 hU a0 h0) rfl rfl ⟨Nat.le_of_ble_eq_true rfl, Nat.le_of_ble_eq_true rfl⟩ hB.1 h0 ro_46 rfl rfl hl.1 rfl (Nat.le_of_ble_eq_true rfl) gX12_years_5.2.2.2.2.1 ⟨Nat.le_refl _, Nat.le_refl _⟩) hB.2.1 (fun v80 H80 locs hp hz hS => ?_)
                obtain ⟨x18, rfl, lx18, ux18, q80_0, q80_1, rfl⟩ := hp
                have hB := th_B_s hB hS
                replace hF := hF.trans (congrArg (dv_k f_X12_years_60b) (dv_bn2 (q80_1)))
                refine W.eq (g2 := F0 m 83 ls [.int x18, .ref a0]) rfl ?_
                have w80 : 1 ≤ x18.toInt := by rw [q80_0, g60_2 69 (by omega)]; omega
                refine th_call (th_runV (As := [.int x18]) (rest := []) hC mf_X12_draws km_X12_523 im_X12_draws se_X12_draws (c_X12_draws l G Γ H60 hB.1 hR.1 hU a0 h0 x18 (by omega) (by omega)) rfl rfl ⟨Nat.le_of_ble_eq_true rfl, Nat.le_of_ble_eq_true rfl⟩ hB.1 h0 ro_46 rfl rfl hl.1 rfl (Nat.le_of_ble_eq_true rfl) gX12_years_5.2.2.2.2.2.1 ⟨Nat.le_refl _, Nat.le_refl _⟩) hB.2.1 (fun v83 H83 locs hp hz hS => ?_)
                have hRD := hR
                obtain ⟨x19, rfl, lx19, ux19, q83_0, hI1, hf, hR, z83_0⟩ := hp
                have hR := th_RN_c hR hRD hI1 h0 hf (by decide)
                have hB := th_B_c hB hI1 hS hf (by decide)
                have mm20 := (th_F_o hf h0 ro_46 (j := 2) (by decide) (by decide)).trans mb16
                have fv_H83_33 : mo_f G H83 a0 33 = mo_f G H60 a0 33 := mo_f_F hf h0 (by decide) (by decide)
                have vv_H83_2 : mo_v G H83 a0 2 = mo_v G H60 a0 2 := mo_v_F (r := 48) hB.1 hf h0 rfl ro_48 (by decide) (by decide)
                have vv_H83_3 : mo_v G H83 a0 3 = mo_v G H60 a0 3 := mo_v_F (r := 49) hB.1 hf h0 rfl ro_49 (by decide) (by decide)
                have vv_H83_4 : mo_v G H83 a0 4 = mo_v G H60 a0 4 := mo_v_F (r := 50) hB.1 hf h0 rfl ro_50 (by decide) (by decide)
                have vv_H83_31 : mo_v G H83 a0 31 = mo_v G H60 a0 31 := mo_v_F (r := 61) hB.1 hf h0 rfl ro_61 (by decide) (by decide)
                have vv_H83_5 : mo_v G H83 a0 5 = mo_v G H60 a0 5 := mo_v_F (r := 51) hB.1 hf h0 rfl ro_51 (by decide) (by decide)
                replace hF := hF.trans (congrArg (dv_k f_X12_years_60b) (dv_bn2 (z83_0)))
                refine W.eq (g2 := F0 m 86 ls [.int x19]) rfl ?_
                have m83 : x19.toInt < mo_v G H60 a0 2 69 := by omega
                refine lv_istore (lv' := [(4, .int x19), (0, .ref a0), (2, .int p2), (3, .int j60_3)]) hx hb gX12_years_5.2.2.2.2.2.2.1 hl (by decide) rfl (fun ls hl => ?_)
                refine lv_aload_n hx hb gX12_years_5.2.2.2.2.2.2.2 rfl (lv_at hl 1 rfl) ?_
                refine lv_aload_n hx hb gX12_years_6.1 rfl (lv_at hl 1 rfl) ?_
                refine th_getK hC cf_X12 hB.1 h0 ro_46 rfl (j := 2) (by decide) mm20 kf_X12_28 gX12_years_6.2.1 ?_
                refine lv_bipush (v := 67) hx hb gX12_years_6.2.2.1 (by decide) ?_
                refine th_ialdF hC hB.1 hb16 ro_48 rfl tk_67 (by omega) (by omega) (ek_hall (by omega) (by omega)) gX12_years_6.2.2.2.1 (fun x21 mx21 lx21 ux21 => ?_)
                replace hF := hF.trans (congrArg (dv_k f_X12_years_60b) (dv_bn (dv_aldI hB.1 hU hb16 ow_48 (z := 67) mx21 (by omega))))
                have vgx21 : mo_v G H83 a0 2 67 = x21.toInt := by rw [show (67 : Int) = 67 by omega]; exact mo_vat mm20 mx21 (by omega)
                have w95 := hR.2.1.2.2.1
                refine th_call (th_runV (As := [.int x21]) (rest := []) hC mf_X12_draws km_X12_523 im_X12_draws se_X12_draws (c_X12_draws l G Γ H83 hB.1 hR.1 hU a0 h0 x21 (by omega) (by omega)) rfl rfl ⟨Nat.le_of_ble_eq_true rfl, Nat.le_of_ble_eq_true rfl⟩ hB.1 h0 ro_46 rfl rfl hl.1 rfl (Nat.le_of_ble_eq_true rfl) gX12_years_6.2.2.2.2.1 ⟨Nat.le_refl _, Nat.le_refl _⟩) hB.2.1 (fun v96 H96 locs hp hz hS => ?_)
                have hRD := hR
                obtain ⟨x22, rfl, lx22, ux22, q96_0, hI1, hf, hR, z96_0⟩ := hp
                have hR := th_RN_c hR hRD hI1 h0 hf (by decide)
                have hB := th_B_c hB hI1 hS hf (by decide)
                have mm23 := (th_F_o hf h0 ro_46 (j := 2) (by decide) (by decide)).trans mm20
                have fv_H96_33 : mo_f G H96 a0 33 = mo_f G H83 a0 33 := mo_f_F hf h0 (by decide) (by decide)
                have vv_H96_2 : mo_v G H96 a0 2 = mo_v G H83 a0 2 := mo_v_F (r := 48) hB.1 hf h0 rfl ro_48 (by decide) (by decide)
                have vv_H96_3 : mo_v G H96 a0 3 = mo_v G H83 a0 3 := mo_v_F (r := 49) hB.1 hf h0 rfl ro_49 (by decide) (by decide)
                have vv_H96_4 : mo_v G H96 a0 4 = mo_v G H83 a0 4 := mo_v_F (r := 50) hB.1 hf h0 rfl ro_50 (by decide) (by decide)
                have vv_H96_31 : mo_v G H96 a0 31 = mo_v G H83 a0 31 := mo_v_F (r := 61) hB.1 hf h0 rfl ro_61 (by decide) (by decide)
                have vv_H96_5 : mo_v G H96 a0 5 = mo_v G H83 a0 5 := mo_v_F (r := 51) hB.1 hf h0 rfl ro_51 (by decide) (by decide)
                replace hF := hF.trans (congrArg (dv_k f_X12_years_60b) (dv_bn2 (z96_0)))
                refine W.eq (g2 := F0 m 99 ls [.int x22]) rfl ?_
                refine lv_istore (lv' := [(5, .int x22), (4, .int x19), (0, .ref a0), (2, .int p2), (3, .int j60_3)]) hx hb gX12_years_6.2.2.2.2.2.1 hl (by decide) rfl (fun ls hl => ?_)
                refine lv_aload_n hx hb gX12_years_6.2.2.2.2.2.2.1 rfl (lv_at hl 2 rfl) ?_
                refine lv_aload_n hx hb gX12_years_6.2.2.2.2.2.2.2 rfl (lv_at hl 2 rfl) ?_
                refine th_getK hC cf_X12 hB.1 h0 ro_46 rfl (j := 2) (by decide) mm23 kf_X12_28 gX12_years_7.1 ?_
                refine lv_bipush (v := 68) hx hb gX12_years_7.2.1 (by decide) ?_
                refine th_ialdF hC hB.1 hb16 ro_48 rfl tk_68 (by omega) (by omega) (ek_hall (by omega) (by omega)) gX12_years_7.2.2.1 (fun x24 mx24 lx24 ux24 => ?_)
                replace hF := hF.trans (congrArg (dv_k f_X12_years_60b) (dv_bn (dv_aldI hB.1 hU hb16 ow_48 (z := 68) mx24 (by omega))))
                have vgx24 : mo_v G H96 a0 2 68 = x24.toInt := by rw [show (68 : Int) = 68 by omega]; exact mo_vat mm23 mx24 (by omega)
                have w108 := hR.2.1.2.2.2.1
                refine th_call (th_runV (As := [.int x24]) (rest := []) hC mf_X12_draws km_X12_523 im_X12_draws se_X12_draws (c_X12_draws l G Γ H96 hB.1 hR.1 hU a0 h0 x24 (by omega) (by omega)) rfl rfl ⟨Nat.le_of_ble_eq_true rfl, Nat.le_of_ble_eq_true rfl⟩ hB.1 h0 ro_46 rfl rfl hl.1 rfl (Nat.le_of_ble_eq_true rfl) gX12_years_7.2.2.2.1 ⟨Nat.le_refl _, Nat.le_refl _⟩) hB.2.1 (fun v109 H109 locs hp hz hS => ?_)
                have hRD := hR
                obtain ⟨x25, rfl, lx25, ux25, q109_0, hI1, hf, hR, z109_0⟩ := hp
                have hR := th_RN_c hR hRD hI1 h0 hf (by decide)
                have hB := th_B_c hB hI1 hS hf (by decide)
                have mm26 := (th_F_o hf h0 ro_46 (j := 2) (by decide) (by decide)).trans mm23
                have fv_H109_33 : mo_f G H109 a0 33 = mo_f G H96 a0 33 := mo_f_F hf h0 (by decide) (by decide)
                have vv_H109_2 : mo_v G H109 a0 2 = mo_v G H96 a0 2 := mo_v_F (r := 48) hB.1 hf h0 rfl ro_48 (by decide) (by decide)
                have vv_H109_3 : mo_v G H109 a0 3 = mo_v G H96 a0 3 := mo_v_F (r := 49) hB.1 hf h0 rfl ro_49 (by decide) (by decide)
                have vv_H109_4 : mo_v G H109 a0 4 = mo_v G H96 a0 4 := mo_v_F (r := 50) hB.1 hf h0 rfl ro_50 (by decide) (by decide)
                have vv_H109_31 : mo_v G H109 a0 31 = mo_v G H96 a0 31 := mo_v_F (r := 61) hB.1 hf h0 rfl ro_61 (by decide) (by decide)
                have vv_H109_5 : mo_v G H109 a0 5 = mo_v G H96 a0 5 := mo_v_F (r := 51) hB.1 hf h0 rfl ro_51 (by decide) (by decide)
                replace hF := hF.trans (congrArg (dv_k f_X12_years_60b) (dv_bn2 (z109_0)))
                refine W.eq (g2 := F0 m 112 ls [.int x25]) rfl ?_
                refine lv_istore (lv' := [(6, .int x25), (5, .int x22), (4, .int x19), (0, .ref a0), (2, .int p2), (3, .int j60_3)]) hx hb gX12_years_7.2.2.2.2.1 hl (by decide) rfl (fun ls hl => ?_)
                refine lv_aload_n hx hb gX12_years_7.2.2.2.2.2.1 rfl (lv_at hl 3 rfl) ?_
                refine lv_iconst (v := 3) hx hb gX12_years_7.2.2.2.2.2.2.1 (by decide) ?_
                refine th_call (th_runV (As := [.int 3]) (rest := []) hC mf_X12_draws km_X12_523 im_X12_draws se_X12_draws (c_X12_draws l G Γ H109 hB.1 hR.1 hU a0 h0 3 (by decide) (by decide)) rfl rfl ⟨Nat.le_of_ble_eq_true rfl, Nat.le_of_ble_eq_true rfl⟩ hB.1 h0 ro_46 rfl rfl hl.1 rfl (Nat.le_of_ble_eq_true rfl) gX12_years_7.2.2.2.2.2.2.2 ⟨Nat.le_refl _, Nat.le_refl _⟩) hB.2.1 (fun v116 H116 locs hp hz hS => ?_)
                have hRD := hR
                obtain ⟨x27, rfl, lx27, ux27, q116_0, hI1, hf, hR, z116_0⟩ := hp
                have hR := th_RN_c hR hRD hI1 h0 hf (by decide)
                have hB := th_B_c hB hI1 hS hf (by decide)
                have mm28 := (th_F_o hf h0 ro_46 (j := 2) (by decide) (by decide)).trans mm26
                have fv_H116_33 : mo_f G H116 a0 33 = mo_f G H109 a0 33 := mo_f_F hf h0 (by decide) (by decide)
                have vv_H116_2 : mo_v G H116 a0 2 = mo_v G H109 a0 2 := mo_v_F (r := 48) hB.1 hf h0 rfl ro_48 (by decide) (by decide)
                have vv_H116_3 : mo_v G H116 a0 3 = mo_v G H109 a0 3 := mo_v_F (r := 49) hB.1 hf h0 rfl ro_49 (by decide) (by decide)
                have vv_H116_4 : mo_v G H116 a0 4 = mo_v G H109 a0 4 := mo_v_F (r := 50) hB.1 hf h0 rfl ro_50 (by decide) (by decide)
                have vv_H116_31 : mo_v G H116 a0 31 = mo_v G H109 a0 31 := mo_v_F (r := 61) hB.1 hf h0 rfl ro_61 (by decide) (by decide)
                have vv_H116_5 : mo_v G H116 a0 5 = mo_v G H109 a0 5 := mo_v_F (r := 51) hB.1 hf h0 rfl ro_51 (by decide) (by decide)
                have w116_0 := tk_3
                have zf116 := z116_0
                rw [tk_3] at zf116
                replace hF := hF.trans (congrArg (dv_k f_X12_years_60b) (dv_bn2 (zf116)))
                refine W.eq (g2 := F0 m 119 ls [.int x27]) rfl ?_
                refine lv_istore (lv' := [(7, .int x27), (6, .int x25), (5, .int x22), (4, .int x19), (0, .ref a0), (2, .int p2), (3, .int j60_3)]) hx hb gX12_years_8.1 hl (by decide) rfl (fun ls hl => ?_)
                refine lv_iload hx hb gX12_years_8.2.1 (lv_at hl 0 rfl) ?_
                refine lv_iconst (v := 2) hx hb gX12_years_8.2.2.1 (by decide) ?_
                have jn151 : ∀ (H151 : Heap) (locs : List Loc) (ls : Array Slot) , th_B G Γ Γ [(47, 0), (46, 0), (48, 0), (51, 0), (70, 0), (60, 0), (59, 0), (46, 55), (46, 56), (46, 22), (46, 24), (58, 0), (46, 23), (46, 25)] H0 H151 locs → th_RN a0 G Γ H151 → lv_has ls 8 [(7, .int x27), (4, .int x19), (0, .ref a0), (2, .int p2), (3, .int j60_3)] → F = dv_k f_X12_years_60b (f_X12_years_151 (dv G Γ H151) (x27.toInt) (x19.toInt) ((a0 : Int)) (p2.toInt) (j60_3.toInt)) → (∀ z : Int, 29 ≤ z → mo_v G H151 a0 2 z = mo_v G H0 a0 2 z) → (∀ i : Int, 0 ≤ i → i < 29 → mo_v G H151 a0 5 i = mo_v G H0 a0 2 i) → W p l e ({ frames := 53, cells := 0, slots := 0, locals := 1674 } : Room) s m ([.ref a0, .int p1, .int p2] : List Value).toArray below meth c H151 locs 0 0 (MQ below (th_Q (fun (v : Option Value) (H1 : Heap) => ∃ r : Int32, v = some (.int r) ∧ th_I G Γ H1 ∧ th_F G Γ [(47, 0), (46, 0), (48, 0), (51, 0), (70, 0), (60, 0), (59, 0), (46, 55), (46, 56), (46, 22), (46, 24), (58, 0), (46, 23), (46, 25)] H0 H1 ∧ th_RN a0 G Γ H1 ∧ (f_X12_years (dv G Γ H0) (a0 : Int) p1.toInt p2.toInt = (dv G Γ H1, r.toInt))) G) ([.ref a0, .int p1, .int p2] : List Value).toArray s 0 0 (fun q => G.1.2.2 ≤ q)) (F0 m 151 ls []) := by
                  intro H151 locs ls hB hR hl hF g151_0 g151_1
                  have mm29 := (th_F_o hB.2.2 h0 ro_46 (j := 2) (by decide) (by decide)).trans sb16
                  have fv30_33 : mo_f G H151 a0 33 = mo_f G H0 a0 33 := mo_f_F hB.2.2 h0 (by decide) (by decide)
                  have vw_H151_3 : mo_v G H151 a0 3 = mo_v G H0 a0 3 := mo_v_F (r := 49) hB.1 hB.2.2 h0 rfl ro_49 (by decide) (by decide)
                  have vw_H151_4 : mo_v G H151 a0 4 = mo_v G H0 a0 4 := mo_v_F (r := 50) hB.1 hB.2.2 h0 rfl ro_50 (by decide) (by decide)
                  have vw_H151_31 : mo_v G H151 a0 31 = mo_v G H0 a0 31 := mo_v_F (r := 61) hB.1 hB.2.2 h0 rfl ro_61 (by decide) (by decide)
                  replace hF := hF.trans (congrArg (dv_k f_X12_years_60b) (f_X12_years_151.eq_1 (dv G Γ H151) (x27.toInt) (x19.toInt) ((a0 : Int)) (p2.toInt) (j60_3.toInt)))
                  refine lv_iload hx hb gX12_years_10.1 (lv_at hl 0 rfl) ?_
                  refine lv_iconst (v := 2) hx hb gX12_years_10.2.1 (by decide) ?_
                  have jn163 : ∀ (H163 : Heap) (locs : List Loc) (ls : Array Slot) , th_B G Γ Γ [(47, 0), (46, 0), (48, 0), (51, 0), (70, 0), (60, 0), (59, 0), (46, 55), (46, 56), (46, 22), (46, 24), (58, 0), (46, 23), (46, 25)] H0 H163 locs → th_RN a0 G Γ H163 → lv_has ls 8 [(0, .ref a0), (2, .int p2), (3, .int j60_3)] → F = dv_k f_X12_years_60b (f_X12_years_163 (dv G Γ H163) ((a0 : Int)) (p2.toInt) (j60_3.toInt)) → (∀ z : Int, 29 ≤ z → mo_v G H163 a0 2 z = mo_v G H0 a0 2 z) → (∀ i : Int, 0 ≤ i → i < 29 → mo_v G H163 a0 5 i = mo_v G H0 a0 2 i) → W p l e ({ frames := 53, cells := 0, slots := 0, locals := 1674 } : Room) s m ([.ref a0, .int p1, .int p2] : List Value).toArray below meth c H163 locs 0 0 (MQ below (th_Q (fun (v : Option Value) (H1 : Heap) => ∃ r : Int32, v = some (.int r) ∧ th_I G Γ H1 ∧ th_F G Γ [(47, 0), (46, 0), (48, 0), (51, 0), (70, 0), (60, 0), (59, 0), (46, 55), (46, 56), (46, 22), (46, 24), (58, 0), (46, 23), (46, 25)] H0 H1 ∧ th_RN a0 G Γ H1 ∧ (f_X12_years (dv G Γ H0) (a0 : Int) p1.toInt p2.toInt = (dv G Γ H1, r.toInt))) G) ([.ref a0, .int p1, .int p2] : List Value).toArray s 0 0 (fun q => G.1.2.2 ≤ q)) (F0 m 163 ls []) := by
                    intro H163 locs ls hB hR hl hF g163_0 g163_1
                    have mm31 := (th_F_o hB.2.2 h0 ro_46 (j := 2) (by decide) (by decide)).trans sb16
                    have fv32_33 : mo_f G H163 a0 33 = mo_f G H0 a0 33 := mo_f_F hB.2.2 h0 (by decide) (by decide)
                    have vw_H163_3 : mo_v G H163 a0 3 = mo_v G H0 a0 3 := mo_v_F (r := 49) hB.1 hB.2.2 h0 rfl ro_49 (by decide) (by decide)
                    have vw_H163_4 : mo_v G H163 a0 4 = mo_v G H0 a0 4 := mo_v_F (r := 50) hB.1 hB.2.2 h0 rfl ro_50 (by decide) (by decide)
                    have vw_H163_31 : mo_v G H163 a0 31 = mo_v G H0 a0 31 := mo_v_F (r := 61) hB.1 hB.2.2 h0 rfl ro_61 (by decide) (by decide)
                    replace hF := hF.trans (congrArg (dv_k f_X12_years_60b) (f_X12_years_163.eq_1 (dv G Γ H163) ((a0 : Int)) (p2.toInt) (j60_3.toInt)))
                    refine lv_aload_n hx hb gX12_years_10.2.2.2.2.2.2.1 rfl (lv_at hl 0 rfl) ?_
                    refine th_call (th_runV (As := []) (rest := []) hC mf_X12_yearPasses km_X12_376 im_X12_yearPasses se_X12_yearPasses (c_X12_yearPasses l G Γ H163 hB.1 hU a0 h0 (th_NE hR)) rfl rfl ⟨Nat.le_of_ble_eq_true rfl, Nat.le_of_ble_eq_true rfl⟩ hB.1 h0 ro_46 rfl rfl hl.1 rfl (Nat.le_of_ble_eq_true rfl) gX12_years_10.2.2.2.2.2.2.2 ⟨Nat.le_refl _, Nat.le_refl _⟩) hB.2.1 (fun v164 H164 locs hp hz hS => ?_)
                    have hRD := hR
                    obtain ⟨x33, rfl, lx33, ux33, hI1, hf, hR, z164_0, z164_1⟩ := hp
                    have hRc164 := hR
                    have hR := hRD
                    have hRC := hRc164.1
                    have hB := th_B_c hB hI1 hS hf (by decide)
                    have mm34 := (th_F_o hf h0 ro_46 (j := 2) (by decide) (by decide)).trans mm31
                    have fv_H164_33 : mo_f G H164 a0 33 = mo_f G H163 a0 33 := mo_f_F hf h0 (by decide) (by decide)
                    have vv_H164_3 : mo_v G H164 a0 3 = mo_v G H163 a0 3 := mo_v_F (r := 49) hB.1 hf h0 rfl ro_49 (by decide) (by decide)
                    have vv_H164_4 : mo_v G H164 a0 4 = mo_v G H163 a0 4 := mo_v_F (r := 50) hB.1 hf h0 rfl ro_50 (by decide) (by decide)
                    have vv_H164_31 : mo_v G H164 a0 31 = mo_v G H163 a0 31 := mo_v_F (r := 61) hB.1 hf h0 rfl ro_61 (by decide) (by decide)
                    have vv_H164_5 : mo_v G H164 a0 5 = mo_v G H163 a0 5 := mo_v_F (r := 51) hB.1 hf h0 rfl ro_51 (by decide) (by decide)
                    replace hF := hF.trans (congrArg (dv_k f_X12_years_60b) (dv_bn2 (z164_1)))
                    refine W.eq (g2 := F0 m 167 ls [.int x33]) rfl ?_
                    have hR : th_RN a0 G Γ H164 := ⟨hRC, by rw [vv_H164_3, vv_H164_4, vv_H164_31, fv_H164_33]; exact mo_ok_sb hR.2 z164_0⟩
                    refine lv_pop hx hb gX12_years_11.1 rfl ?_
                    refine tr_iinc (fun x35 => [(3, .int x35), (0, .ref a0), (2, .int p2)]) hx hb gX12_years_11.2.1 hl (k := 2) rfl (Eq.refl _) tk_1 (by omega) (by omega) (by decide) (fun _ => rfl) (fun x35 ls ex35 hl => ?_)
                    replace hF := hF.trans (congrArg (dv_k f_X12_years_60b) (dv_bn (ex35.symm)))
                    refine lv_goto (tgt := 60) hx hb gX12_years_11.2.2.1 (by decide) ?_
                    replace hF := hF.trans (dv_kl)
                    exact ih60 H164 locs ls x35 hB hR (lv_sub hl [1, 2, 0] rfl) hF (by omega) (by omega) (fun z a9 => by rw [z164_0.1 z a9]; exact g163_0 z a9) (fun i a9 b9 => by rw [vv_H164_5]; exact g163_1 i a9 b9) (by omega)
                  refine tr_icmp_ne (tgt := 163) hx hb gX12_years_10.2.2.1 (by decide) (Eq.refl _) tk_2 (fun c154 => ?_) (fun c154 => ?_)
                  · replace hF := hF.trans (congrArg (dv_k f_X12_years_60b) (if_pos c154))
                    exact jn163 H151 locs ls hB hR (lv_sub hl [2, 3, 4] rfl) hF g151_0 g151_1
                  · replace hF := hF.trans (congrArg (dv_k f_X12_years_60b) (if_neg (not_not_intro c154)))
                    refine lv_aload_n hx hb gX12_years_10.2.2.2.1 rfl (lv_at hl 2 rfl) ?_
                    refine lv_iload hx hb gX12_years_10.2.2.2.2.1 (lv_at hl 1 rfl) ?_
                    refine th_call (th_runV (As := [.int x19]) (rest := []) hC mf_X12_rolls km_X12_123 im_X12_rolls se_X12_rolls (c_X12_rolls l G Γ H151 hB.1 hU a0 h0 (th_NE hR) x19 (by omega) (by omega)) rfl rfl ⟨Nat.le_of_ble_eq_true rfl, Nat.le_of_ble_eq_true rfl⟩ hB.1 h0 ro_46 rfl rfl hl.1 rfl (Nat.le_of_ble_eq_true rfl) gX12_years_10.2.2.2.2.2.1 ⟨Nat.le_refl _, Nat.le_refl _⟩) hB.2.1 (fun v160 H160 locs hp hz hS => ?_)
                    have hRD := hR
                    obtain ⟨rfl, hI1, hf, hR, z160_0, z160_1⟩ := hp
                    have hRc160 := hR
                    have hR := hRD
                    have hRC := hRc160.1
                    have hB := th_B_c hB hI1 hS hf (by decide)
                    have mm36 := (th_F_o hf h0 ro_46 (j := 2) (by decide) (by decide)).trans mm29
                    have fv_H160_33 : mo_f G H160 a0 33 = mo_f G H151 a0 33 := mo_f_F hf h0 (by decide) (by decide)
                    have vv_H160_3 : mo_v G H160 a0 3 = mo_v G H151 a0 3 := mo_v_F (r := 49) hB.1 hf h0 rfl ro_49 (by decide) (by decide)
                    have vv_H160_4 : mo_v G H160 a0 4 = mo_v G H151 a0 4 := mo_v_F (r := 50) hB.1 hf h0 rfl ro_50 (by decide) (by decide)
                    have vv_H160_31 : mo_v G H160 a0 31 = mo_v G H151 a0 31 := mo_v_F (r := 61) hB.1 hf h0 rfl ro_61 (by decide) (by decide)
                    have vv_H160_5 : mo_v G H160 a0 5 = mo_v G H151 a0 5 := mo_v_F (r := 51) hB.1 hf h0 rfl ro_51 (by decide) (by decide)
                    replace hF := hF.trans (congrArg (dv_k f_X12_years_60b) (dv_bn2 (z160_1)))
                    refine W.eq (g2 := F0 m 163 ls []) rfl ?_
                    have hR : th_RN a0 G Γ H160 := ⟨hRC, by rw [z160_0, vv_H160_3, vv_H160_4, vv_H160_31, fv_H160_33]; exact mo_ok_sb hR.2 (mo_sb_ro mo_sb_rf (by omega) (by omega))⟩
                    exact jn163 H160 locs ls hB hR (lv_sub hl [2, 3, 4] rfl) hF (fun z a9 => by rw [z160_0, mo_un (by omega), mo_un (by omega)]; exact g151_0 z a9) (fun i a9 b9 => by rw [vv_H160_5]; exact g151_1 i a9 b9)
                refine tr_icmp_ge (tgt := 151) hx hb gX12_years_8.2.2.2.1 (by decide) (Eq.refl _) tk_2 (fun c124 => ?_) (fun c124 => ?_)
                · replace hF := hF.trans (congrArg (dv_k f_X12_years_60b) (if_pos c124))
                  exact jn151 H116 locs ls hB hR (lv_sub hl [0, 3, 4, 5, 6] rfl) hF (fun z a9 => by rw [vv_H116_2, vv_H109_2, vv_H96_2, vv_H83_2]; exact g60_2 z a9) (fun i a9 b9 => by rw [vv_H116_5, vv_H109_5, vv_H96_5, vv_H83_5]; exact g60_3 i a9 b9)
                · replace hF := hF.trans (congrArg (dv_k f_X12_years_60b) (if_neg (Int.not_le.mpr c124)))
                  refine lv_aload_n hx hb gX12_years_8.2.2.2.2.1 rfl (lv_at hl 4 rfl) ?_
                  refine lv_iload hx hb gX12_years_8.2.2.2.2.2.1 (lv_at hl 3 rfl) ?_
                  refine lv_iload hx hb gX12_years_8.2.2.2.2.2.2.1 (lv_at hl 2 rfl) ?_
                  refine lv_iload hx hb gX12_years_8.2.2.2.2.2.2.2 (lv_at hl 1 rfl) ?_
                  have m134 : x19.toInt < mo_v G H116 a0 2 69 := by rw [vv_H116_2, vv_H109_2, vv_H96_2, vv_H83_2]; exact m83
                  refine th_call (th_runV (As := [.int x19, .int x22, .int x25]) (rest := []) hC mf_X12_canLay km_X12_159 im_X12_canLay se_X12_canLay (c_X12_canLay l G Γ H116 hB.1 hU a0 h0 (th_NK hR) x19 (by omega) (by omega) x22 (by omega) (by omega) x25 (by omega) (by omega) (by omega)) rfl rfl ⟨Nat.le_of_ble_eq_true rfl, Nat.le_of_ble_eq_true rfl⟩ hB.1 h0 ro_46 rfl rfl hl.1 rfl (Nat.le_of_ble_eq_true rfl) gX12_years_9.1 ⟨Nat.le_refl _, Nat.le_refl _⟩) hB.2.1 (fun v134 H134 locs hp hz hS => ?_)
                  have hRD := hR
                  obtain ⟨x37, rfl, lx37, ux37, q134_0, hI1, hf, hR, z134_0⟩ := hp
                  have hR := th_RN_c hR.1 hRD hI1 h0 hf (by decide)
                  have hB := th_B_c hB hI1 hS hf (by decide)
                  have mm38 := (th_F_o hf h0 ro_46 (j := 2) (by decide) (by decide)).trans mm28
                  have fv_H134_33 : mo_f G H134 a0 33 = mo_f G H116 a0 33 := mo_f_F hf h0 (by decide) (by decide)
                  have vv_H134_2 : mo_v G H134 a0 2 = mo_v G H116 a0 2 := mo_v_F (r := 48) hB.1 hf h0 rfl ro_48 (by decide) (by decide)
                  have vv_H134_3 : mo_v G H134 a0 3 = mo_v G H116 a0 3 := mo_v_F (r := 49) hB.1 hf h0 rfl ro_49 (by decide) (by decide)
                  have vv_H134_4 : mo_v G H134 a0 4 = mo_v G H116 a0 4 := mo_v_F (r := 50) hB.1 hf h0 rfl ro_50 (by decide) (by decide)
                  have vv_H134_31 : mo_v G H134 a0 31 = mo_v G H116 a0 31 := mo_v_F (r := 61) hB.1 hf h0 rfl ro_61 (by decide) (by decide)
                  have vv_H134_5 : mo_v G H134 a0 5 = mo_v G H116 a0 5 := mo_v_F (r := 51) hB.1 hf h0 rfl ro_51 (by decide) (by decide)
                  replace hF := hF.trans (congrArg (dv_k f_X12_years_60b) (dv_bn2 (z134_0)))
                  refine W.eq (g2 := F0 m 137 ls [.int x37]) rfl ?_
                  refine tr_if_eq (tgt := 151) hx hb gX12_years_9.2.1 (by decide) (Eq.refl _) (fun c137 => ?_) (fun c137 => ?_)
                  · replace hF := hF.trans (congrArg (dv_k f_X12_years_60b) (if_pos c137))
                    exact jn151 H134 locs ls hB hR (lv_sub hl [0, 3, 4, 5, 6] rfl) hF (fun z a9 => by rw [vv_H134_2, vv_H116_2, vv_H109_2, vv_H96_2, vv_H83_2]; exact g60_2 z a9) (fun i a9 b9 => by rw [vv_H134_5, vv_H116_5, vv_H109_5, vv_H96_5, vv_H83_5]; exact g60_3 i a9 b9)
                  · replace hF := hF.trans (congrArg (dv_k f_X12_years_60b) (if_neg c137))
                    refine lv_aload_n hx hb gX12_years_9.2.2.1 rfl (lv_at hl 4 rfl) ?_
                    refine lv_iload hx hb gX12_years_9.2.2.2.1 (lv_at hl 3 rfl) ?_
                    refine lv_iload hx hb gX12_years_9.2.2.2.2.1 (lv_at hl 2 rfl) ?_
                    refine lv_iload hx hb gX12_years_9.2.2.2.2.2.1 (lv_at hl 1 rfl) ?_
                    refine th_call (th_runV (As := [.int x19, .int x22, .int x25]) (rest := []) hC mf_X12_laysAt km_X12_373 im_X12_laysAt se_X12_laysAt (c_X12_laysAt l G Γ H134 hB.1 hU a0 h0 (th_NE hR) x19 (by omega) (by omega) x22 x25) rfl rfl ⟨Nat.le_of_ble_eq_true rfl, Nat.le_of_ble_eq_true rfl⟩ hB.1 h0 ro_46 rfl rfl hl.1 rfl (Nat.le_of_ble_eq_true rfl) gX12_years_9.2.2.2.2.2.2.1 ⟨Nat.le_refl _, Nat.le_refl _⟩) hB.2.1 (fun v147 H147 locs hp hz hS => ?_)
                    have hRD := hR
                    obtain ⟨x39, rfl, lx39, ux39, hI1, hf, hR, z147_0, z147_1⟩ := hp
                    have hRc147 := hR
                    have hR := hRD
                    have hRC := hRc147.1
                    have hB := th_B_c hB hI1 hS hf (by decide)
                    have mm40 := (th_F_o hf h0 ro_46 (j := 2) (by decide) (by decide)).trans mm38
                    have fv_H147_33 : mo_f G H147 a0 33 = mo_f G H134 a0 33 := mo_f_F hf h0 (by decide) (by decide)
                    have vv_H147_3 : mo_v G H147 a0 3 = mo_v G H134 a0 3 := mo_v_F (r := 49) hB.1 hf h0 rfl ro_49 (by decide) (by decide)
                    have vv_H147_4 : mo_v G H147 a0 4 = mo_v G H134 a0 4 := mo_v_F (r := 50) hB.1 hf h0 rfl ro_50 (by decide) (by decide)
                    have vv_H147_31 : mo_v G H147 a0 31 = mo_v G H134 a0 31 := mo_v_F (r := 61) hB.1 hf h0 rfl ro_61 (by decide) (by decide)
                    have vv_H147_5 : mo_v G H147 a0 5 = mo_v G H134 a0 5 := mo_v_F (r := 51) hB.1 hf h0 rfl ro_51 (by decide) (by decide)
                    replace hF := hF.trans (congrArg (dv_k f_X12_years_60b) (dv_bn2 (z147_1)))
                    refine W.eq (g2 := F0 m 150 ls [.int x39]) rfl ?_
                    have fr := q134_0 (by omega)
                    rw [← vv_H134_2] at fr
                    have m147 : x19.toInt < mo_v G H134 a0 2 69 := by rw [vv_H134_2]; exact m134
                    have hR : th_RN a0 G Γ H147 := ⟨hRC, by rw [vv_H147_3, vv_H147_4, vv_H147_31, fv_H147_33]; exact mo_ok_29 hR.2 (fun i hi => by rw [z147_0 i (by omega), mo_un (by omega), mo_un (by omega)]) (mo_geo_lay hR.2.1.2.1 (by omega) m147 (hR.2.1.2.2.2.2 x19.toInt (by omega) m147) fr.1 (by omega) (by omega) fr.2 z147_0)⟩
                    refine lv_pop hx hb gX12_years_9.2.2.2.2.2.2.2 rfl ?_
                    exact jn151 H147 locs ls hB hR (lv_sub hl [0, 3, 4, 5, 6] rfl) hF (fun z a9 => by rw [z147_0 z (by omega), mo_un (by omega), mo_un (by omega), vv_H134_2, vv_H116_2, vv_H109_2, vv_H96_2, vv_H83_2]; exact g60_2 z a9) (fun i a9 b9 => by rw [vv_H147_5, vv_H134_5, vv_H116_5, vv_H109_5, vv_H96_5, vv_H83_5]; exact g60_3 i a9 b9)
        exact lp60 ((2147483648 : Int) - (0)).toNat H55 locs ls 0 hB hR (lv_sub hl [1, 3, 0] rfl) (by rw [tk_0]; exact hF) (by decide) (by decide) (fun z a9 => by rw [vv_H55_2, vv_H50_2, vv_H42_2]) (fun i a9 b9 => by have q9 := z55_0 i a9 b9; rw [vv_H50_2, vv_H42_2] at q9; rw [← q9]; congr 1; have w0 := tk_0; omega) (by have w0 := tk_0; omega)
      · replace hF := hF.trans (if_neg (not_not_intro c30))
        refine lv_aload_n hx hb gX12_years_2.2.1 rfl (lv_at hl 0 rfl) ?_
        refine lv_bipush (v := (-3)) hx hb gX12_years_2.2.2.1 (by decide) ?_
        refine th_call (th_runV (As := [.int (-3)]) (rest := []) hC mf_X12_refuses km_X12_109 im_X12_refuses se_X12_refuses (c_X12_refuses l G Γ H0 hB.1 hR.1 hU a0 h0 (-3) (by decide) (by decide)) rfl rfl ⟨Nat.le_of_ble_eq_true rfl, Nat.le_of_ble_eq_true rfl⟩ hB.1 h0 ro_46 rfl rfl hl.1 rfl (Nat.le_of_ble_eq_true rfl) gX12_years_2.2.2.2.1 ⟨Nat.le_refl _, Nat.le_refl _⟩) hB.2.1 (fun v36 H36 locs hp hz hS => ?_)
        have hRD := hR
        obtain ⟨x41, rfl, q36_0, hI1, hf, hR, z36_0⟩ := hp
        have hR := th_RN_c hR hRD hI1 h0 hf (by decide)
        have hB := th_B_c hB hI1 hS hf (by decide)
        have fv_H36_33 : mo_f G H36 a0 33 = mo_f G H0 a0 33 := mo_f_F hf h0 (by decide) (by decide)
        have vv_H36_2 : mo_v G H36 a0 2 = mo_v G H0 a0 2 := mo_v_F (r := 48) hB.1 hf h0 rfl ro_48 (by decide) (by decide)
        have vv_H36_3 : mo_v G H36 a0 3 = mo_v G H0 a0 3 := mo_v_F (r := 49) hB.1 hf h0 rfl ro_49 (by decide) (by decide)
        have vv_H36_4 : mo_v G H36 a0 4 = mo_v G H0 a0 4 := mo_v_F (r := 50) hB.1 hf h0 rfl ro_50 (by decide) (by decide)
        have vv_H36_31 : mo_v G H36 a0 31 = mo_v G H0 a0 31 := mo_v_F (r := 61) hB.1 hf h0 rfl ro_61 (by decide) (by decide)
        have vv_H36_5 : mo_v G H36 a0 5 = mo_v G H0 a0 5 := mo_v_F (r := 51) hB.1 hf h0 rfl ro_51 (by decide) (by decide)
        have w36_0 := tk_m3
        have zf36 := z36_0
        rw [tk_m3] at zf36
        replace hF := hF.trans (dv_bn2 (zf36))
        refine W.eq (g2 := F0 m 39 ls [.int x41]) rfl ?_
        exact th_iret hC hH hr hlocks rfl hB.2.1 ⟨_, rfl, hB.1, hB.2.2, hR, (hF0.symm.trans hF)⟩ gX12_years_2.2.2.2.2.1
    · replace hF := hF.trans (if_neg (not_not_intro c17))
      exact jn20 locs ls hB (lv_sub hl [0] rfl) hF
end
section
section MO10
variable {T : Int → Int}
def mo_go (i p q m k : Int) : Int := if k = 0 then i + 1 else if k = 1 then p else if k = 2 then q else m
def mo_st (i p q k : Int) : Int := if k = 0 then i + 1 else if k = 1 then p + 1 else q + 1
def mo_en (p q m k : Int) : Int := if k = 0 then p else if k = 1 then q else m
/-- the sums of an order, n of them, then how often, then its test -/
def mo_os (T : Int → Int) (i j p q m n : Int) : Prop := (0 ≤ n ∧ n ≤ 3 ∧ i + 1 ≤ m) ∧ (∀ k, 0 ≤ k → k < n → mo_sum 1 T 8 (mo_st i p q k) (mo_en p q m k)) ∧ mo_go i p q m n = m ∧ ∃ m2, mo_tim T m m2 ∧ mo_if 1 T m2 j
theorem mo_ord_os {i j : Int} (h : mo_ord T i j) : (T i = 21 → ∃ p q m, mo_os T i j p q m 3) ∧ (T i = 24 → ∃ p q m, mo_os T i j p q m 1) ∧ (T i ≠ 21 → T i ≠ 24 → ∃ p q m, mo_os T i j p q m 0) := by
  obtain ⟨m, hh, m2, ht, hi⟩ := h
  refine ⟨fun e => ?_, fun e => ?_, fun e e' => ?_⟩
  · rcases hh with ⟨-, p, q, h4, -, h5, -, h6⟩ | ⟨w, -⟩ | ⟨w, -⟩
    · have l4 := mo_sum_lt _ _ _ _ _ h4
      have l5 := mo_sum_lt _ _ _ _ _ h5
      have l6 := mo_sum_lt _ _ _ _ _ h6
      refine ⟨p, q, m, ⟨by omega, by omega, by omega⟩, fun k k0 k1 => ?_, rfl, m2, ht, hi⟩
      have hk : k = 0 ∨ k = 1 ∨ k = 2 := by omega
      rcases hk with rfl | rfl | rfl
      · exact h4
      · exact h5
      · exact h6
    · omega
    · omega
  · rcases hh with ⟨w, -⟩ | ⟨-, h4⟩ | ⟨w, -⟩
    · omega
    · have l4 := mo_sum_lt _ _ _ _ _ h4
      refine ⟨m, m, m, ⟨by omega, by omega, by omega⟩, fun k k0 k1 => ?_, rfl, m2, ht, hi⟩
      have hk : k = 0 := by omega
      subst hk
      exact h4
    · omega
  · rcases hh with ⟨w, -⟩ | ⟨w, -⟩ | ⟨w, h4⟩
    · exact absurd w e
    · exact absurd w e'
    · exact ⟨m, m, m, ⟨by omega, by omega, by omega⟩, fun k k0 k1 => by omega, by unfold mo_go; rw [if_pos rfl]; exact h4.symm, m2, ht, hi⟩
theorem mo_tim_le {m m2 : Int} (h : mo_tim T m m2) : m ≤ m2 := by
  rcases h with ⟨-, -, h⟩ | ⟨-, h⟩ <;> omega
theorem mo_ord_nz {i j : Int} (h : mo_ord T i j) : T i ≠ 0 := by
  obtain ⟨m, hh, -⟩ := h
  rcases hh with ⟨w, -⟩ | ⟨w, -⟩ | ⟨w, -⟩ <;> omega
theorem mo_gs_0 {i p q m : Int} : mo_go i p q m 0 = i + 1 ∧ mo_st i p q 0 = i + 1 := ⟨rfl, rfl⟩
theorem mo_gs_s {i p q m k : Int} (h0 : 1 ≤ k) (h1 : k ≤ 2) : mo_st i p q k = mo_go i p q m k + 1 := by
  unfold mo_st mo_go
  (repeat' split) <;> omega
theorem mo_gs_e {i p q m k : Int} (h0 : 0 ≤ k) (h1 : k ≤ 2) : mo_en p q m k = mo_go i p q m (k + 1) := by
  unfold mo_en mo_go
  (repeat' split) <;> omega
theorem mo_tf_29 {k k' : Int → Int} {b n : Int} (h : ∀ z : Int, 29 ≤ z → k' z = k z) (hb : 29 ≤ b) : mo_tf k' b n = mo_tf k b n := by
  funext i
  unfold mo_tf
  by_cases w : 0 ≤ i ∧ i < n
  · rw [if_pos w, if_pos w]
    exact h _ (by omega)
  · rw [if_neg w, if_neg w]
/-- orders are laid where no law is -/
theorem mo_ok_6 {k k' c im has l : Int → Int} {u n : Int} (hk : mo_ok k im has l u) (n1 : n ≤ 400) (h : ∀ z, z < 2880 → k' z = mo_ly k c 6 n n z) : mo_ok k' im has l u := by
  have e : ∀ z, z < 2480 → z ≠ 79 → k' z = k z := by
    intro z a b
    rw [h z (by omega)]
    unfold mo_ly
    rw [if_neg (by omega), if_neg (by omega)]
  refine mo_ok_gx hk ⟨fun i a b => e i (by omega) (by omega), fun i a b => e i (by omega) (by omega), e _ (by omega) (by omega), e _ (by omega) (by omega), e _ (by omega) (by omega)⟩ ?_
  obtain ⟨h1, h2, h3⟩ := hk.1.1
  unfold mo_lw
  rw [e 71 (by omega) (by omega), e 72 (by omega) (by omega)]
  refine ⟨h1, h2, fun t t0 t1 => ?_⟩
  obtain ⟨w1, w2⟩ := h3 t t0 t1
  rw [e (73 + t) (by omega) (by omega)]
  refine ⟨w1, ?_⟩
  have ef : mo_tf k' (80 + 400 * t) (k (73 + t)) = mo_tf k (80 + 400 * t) (k (73 + t)) := by
    funext i
    unfold mo_tf
    by_cases w : 0 ≤ i ∧ i < k (73 + t)
    · rw [if_pos w, if_pos w]
      exact e _ (by omega) (by omega)
    · rw [if_neg w, if_neg w]
  rw [ef]
  exact w2
theorem mo_tf_6 {k k' c : Int → Int} {n : Int} (n1 : n ≤ 400) (h : ∀ z, z < 2880 → k' z = mo_ly k c 6 n n z) : mo_tf k' 2480 n = mo_tf c 0 n := by
  funext i
  unfold mo_tf
  by_cases w : 0 ≤ i ∧ i < n
  · rw [if_pos w, if_pos w, h _ (by omega)]
    unfold mo_ly
    rw [if_neg (by omega), if_pos (by omega)]
    congr 1
    omega
  · rw [if_neg w, if_neg w]
end MO10
set_option maxHeartbeats 4000000 in
set_option maxRecDepth 100000 in
theorem c_X12_isMovable (l : Launch) (G : th_G) (Γ : th_Ga) (H0 : Heap) (hI : th_I G Γ H0) (hU : dv_U Γ) (a0 : Nat) (h0 : Γ a0 = (46, 0)) (hR : th_RK a0 G Γ H0) (p1 : Int32) (f1 : 0 ≤ p1.toInt) (g1 : p1.toInt ≤ 8) : Met l yX12_isMovable (.code yX12_isMovable cX12_isMovable 4 (some FieldType.boolean) :: th_tb) ({ frames := 54, cells := 0, slots := 0, locals := 1697 } : Room) (th_P [.ref a0, .int p1] G H0) (th_Q (fun (v : Option Value) (H1 : Heap) => ∃ r : Int32, v = some (.int r) ∧ 0 ≤ r.toInt ∧ r.toInt ≤ 1 ∧ th_I G Γ H1 ∧ th_F G Γ [(46, 41), (46, 42), (46, 43), (67, 0), (66, 0), (59, 0), (64, 0), (65, 0), (46, 39), (46, 40), (63, 0), (46, 44), (46, 45), (46, 22), (46, 24), (58, 0), (46, 23), (46, 25), (48, 0)] H0 H1 ∧ th_RK a0 G Γ H1 ∧ (mo_v G H1 a0 2 = mo_v G H0 a0 2) ∧ (f_X12_isMovable (dv G Γ H0) (a0 : Int) p1.toInt = (dv G Γ H1, r.toInt))) G) 0 0 (fun q => G.1.2.2 ≤ q) := by
  refine th_met RX12 (by decide) rfl (Nat.le_of_ble_eq_true rfl) ?_
  intro p e s m below meth c hC hH hr hlocks hnm ls hl
  have hx := hC.1
  have hb := hC.2.1
  have hB : th_B G Γ Γ [(46, 41), (46, 42), (46, 43), (67, 0), (66, 0), (59, 0), (64, 0), (65, 0), (46, 39), (46, 40), (63, 0), (46, 44), (46, 45), (46, 22), (46, 24), (58, 0), (46, 23), (46, 25), (48, 0)] H0 H0 [] := ⟨hI, va_S.rf, th_F_rf⟩
  have hl : lv_has ls 4 [(0, .ref a0), (1, .int p1)] := hl
  have lp1 := ti_lo p1; have up1 := ti_hi p1
  obtain ⟨F, hF0⟩ : ∃ F, F = f_X12_isMovable (dv G Γ H0) ((a0 : Int)) (p1.toInt) := ⟨_, rfl⟩
  have hF := hF0.trans (f_X12_isMovable.eq_1 (dv G Γ H0) ((a0 : Int)) (p1.toInt))
  refine lv_aload_n hx hb gX12_isMovable_0.1 rfl (lv_at hl 0 rfl) ?_
  have hR0 := hR
  refine th_getO (j := 2) (r2 := 48) hC cf_X12 hB.1 h0 ro_46 rfl rfl kf_X12_28 gX12_isMovable_0.2.1 (fun b1 mb1 hb1 => ?_)
  refine lv_bipush (v := 9) hx hb gX12_isMovable_0.2.2.1 (by decide) ?_
  refine lv_iload_n hx hb gX12_isMovable_0.2.2.2.1 rfl (lv_at hl 1 rfl) ?_
  refine tr_iadd hx hb gX12_isMovable_0.2.2.2.2.1 tk_9 (Eq.refl _) (by omega) (by omega) (fun x2 ex2 => ?_)
  replace hF := hF.trans (dv_bn (ex2.symm))
  refine th_ialdF hC hB.1 hb1 ro_48 rfl (Eq.refl _) (by omega) (by omega) (ek_a (by omega) (by omega)) gX12_isMovable_0.2.2.2.2.2.1 (fun x3 mx3 lx3 ux3 => ?_)
  replace hF := hF.trans (dv_bn (dv_aldI hB.1 hU hb1 ow_48 (z := x2.toInt) mx3 (by omega)))
  have vgx3 : mo_v G H0 a0 2 (9 + p1.toInt) = x3.toInt := by rw [show ((9 + p1.toInt) : Int) = x2.toInt by omega]; exact mo_vat mb1 mx3 (by omega)
  refine lv_istore_n (lv' := [(2, .int x3), (0, .ref a0), (1, .int p1)]) hx hb gX12_isMovable_0.2.2.2.2.2.2.1 rfl hl (by decide) rfl (fun ls hl => ?_)
  refine lv_aload_n hx hb gX12_isMovable_0.2.2.2.2.2.2.2 rfl (lv_at hl 1 rfl) ?_
  refine th_getK hC cf_X12 hB.1 h0 ro_46 rfl (j := 2) (by decide) mb1 kf_X12_28 gX12_isMovable_1.1 ?_
  refine lv_bipush (v := 18) hx hb gX12_isMovable_1.2.1 (by decide) ?_
  refine lv_iload_n hx hb gX12_isMovable_1.2.2.1 rfl (lv_at hl 2 rfl) ?_
  refine tr_iadd hx hb gX12_isMovable_1.2.2.2.1 tk_18 (Eq.refl _) (by omega) (by omega) (fun x4 ex4 => ?_)
  replace hF := hF.trans (dv_bn (ex4.symm))
  refine th_ialdF hC hB.1 hb1 ro_48 rfl (Eq.refl _) (by omega) (by omega) (ek_a (by omega) (by omega)) gX12_isMovable_1.2.2.2.2.1 (fun x5 mx5 lx5 ux5 => ?_)
  replace hF := hF.trans (dv_bn (dv_aldI hB.1 hU hb1 ow_48 (z := x4.toInt) mx5 (by omega)))
  have vgx5 : mo_v G H0 a0 2 (18 + p1.toInt) = x5.toInt := by rw [show ((18 + p1.toInt) : Int) = x4.toInt by omega]; exact mo_vat mb1 mx5 (by omega)
  refine lv_istore_n (lv' := [(3, .int x5), (2, .int x3), (0, .ref a0), (1, .int p1)]) hx hb gX12_isMovable_1.2.2.2.2.2.1 rfl hl (by decide) rfl (fun ls hl => ?_)
  refine lv_aload_n hx hb gX12_isMovable_1.2.2.2.2.2.2.1 rfl (lv_at hl 2 rfl) ?_
  refine lv_iload_n hx hb gX12_isMovable_1.2.2.2.2.2.2.2 rfl (lv_at hl 3 rfl) ?_
  refine th_call (th_runV (As := [.int p1]) (rest := []) hC mf_X12_rolls km_X12_123 im_X12_rolls se_X12_rolls (c_X12_rolls l G Γ H0 hB.1 hU a0 h0 (th_KE hR) p1 (by omega) (by omega)) rfl rfl ⟨Nat.le_of_ble_eq_true rfl, Nat.le_of_ble_eq_true rfl⟩ hB.1 h0 ro_46 rfl rfl hl.1 rfl (Nat.le_of_ble_eq_true rfl) gX12_isMovable_2.1 ⟨Nat.le_refl _, Nat.le_refl _⟩) hB.2.1 (fun v22 H22 locs hp hz hS => ?_)
  have hRD := hR
  obtain ⟨rfl, hI1, hf, hR, z22_0, z22_1⟩ := hp
  have hRc22 := hR
  have hR := hRD
  have hRC := hRc22.1
  have hB := th_B_c hB hI1 hS hf (by decide)
  have mm6 := (th_F_o hf h0 ro_46 (j := 2) (by decide) (by decide)).trans mb1
  replace hF := hF.trans (dv_bn2 (z22_1))
  refine W.eq (g2 := F0 m 25 ls []) rfl ?_
  have hR : th_RK a0 G Γ H22 := ⟨hRC, by rw [z22_0]; exact mo_kg_29 hR.2 (fun i hi => by rw [mo_un (by omega), mo_un (by omega)]) (mo_geo_sb (mo_sb_ro mo_sb_rf (by omega) (by omega)) hR.2.2.1)⟩
  refine lv_aload_n hx hb gX12_isMovable_2.2.1 rfl (lv_at hl 2 rfl) ?_
  refine lv_iconst (v := 0) hx hb gX12_isMovable_2.2.2.1 (by decide) ?_
  refine th_call (th_runV (As := [.int 0]) (rest := []) hC mf_X12_fillsNow km_X12_445 im_X12_fillsNow se_X12_fillsNow (c_X12_fillsNow l G Γ H22 hB.1 hU a0 h0 hR 0 (by decide) (by decide)) rfl rfl ⟨Nat.le_of_ble_eq_true rfl, Nat.le_of_ble_eq_true rfl⟩ hB.1 h0 ro_46 rfl rfl hl.1 rfl (Nat.le_of_ble_eq_true rfl) gX12_isMovable_2.2.2.2.1 ⟨Nat.le_refl _, Nat.le_refl _⟩) hB.2.1 (fun v27 H27 locs hp hz hS => ?_)
  obtain ⟨rfl, hI1, hf, hR, z27_0⟩ := hp
  have hB := th_B_c hB hI1 hS hf (by decide)
  have mm7 := (th_F_o hf h0 ro_46 (j := 2) (by decide) (by decide)).trans mm6
  have vv_H27_2 : mo_v G H27 a0 2 = mo_v G H22 a0 2 := mo_v_F (r := 48) hB.1 hf h0 rfl ro_48 (by decide) (by decide)
  have zf27 := z27_0
  rw [tk_0] at zf27
  replace hF := hF.trans (dv_bn2 (zf27))
  refine W.eq (g2 := F0 m 30 ls []) rfl ?_
  refine lv_aload_n hx hb gX12_isMovable_2.2.2.2.2.1 rfl (lv_at hl 2 rfl) ?_
  refine th_getK hC cf_X12 hB.1 h0 ro_46 rfl (j := 2) (by decide) mm7 kf_X12_28 gX12_isMovable_2.2.2.2.2.2.1 ?_
  refine lv_bipush (v := 9) hx hb gX12_isMovable_2.2.2.2.2.2.2.1 (by decide) ?_
  refine lv_iload_n hx hb gX12_isMovable_2.2.2.2.2.2.2.2 rfl (lv_at hl 3 rfl) ?_
  refine tr_iadd hx hb gX12_isMovable_3.1 tk_9 (Eq.refl _) (by omega) (by omega) (fun x8 ex8 => ?_)
  replace hF := hF.trans (dv_bn (ex8.symm))
  refine lv_iload_n hx hb gX12_isMovable_3.2.1 rfl (lv_at hl 1 rfl) ?_
  have hIo := hB.1
  refine th_iastF hC hB hb1 (Or.inl hb1) ro_48 rfl (by decide) (Eq.refl _) (by omega) (by omega) (by rw [(ek_a (by omega) (by omega))]; exact th_sIa) gX12_isMovable_3.2.2.1 (fun H39 locs hB hf39 hst39 => ?_)
  have hf := hf39
  have mm9 := (th_F_o hf h0 ro_46 (j := 2) (by decide) (by decide)).trans mm7
  have hRC := th_RC_F hB.1 hR.1 hf (th_T_s hb1 ro_48 hst39) (by decide)
  replace hF := hF.trans (dv_bn (dv_stoI hIo hB.1 hU hb1 ow_48 (i := x8.toInt) hst39 (Eq.refl _) (by omega)))
  have vs39 : mo_v G H39 a0 2 = mo_u (mo_v G H27 a0 2) (9 + p1.toInt) x3.toInt := by rw [show ((9 + p1.toInt) : Int) = x8.toInt by omega]; exact mo_v_st h0 hb1 (by decide) mm7 hst39 (by omega)
  refine lv_aload_n hx hb gX12_isMovable_3.2.2.2.1 rfl (lv_at hl 2 rfl) ?_
  refine th_getK hC cf_X12 hB.1 h0 ro_46 rfl (j := 2) (by decide) mm9 kf_X12_28 gX12_isMovable_3.2.2.2.2.1 ?_
  refine lv_bipush (v := 18) hx hb gX12_isMovable_3.2.2.2.2.2.1 (by decide) ?_
  refine lv_iload_n hx hb gX12_isMovable_3.2.2.2.2.2.2.1 rfl (lv_at hl 3 rfl) ?_
  refine tr_iadd hx hb gX12_isMovable_3.2.2.2.2.2.2.2 tk_18 (Eq.refl _) (by omega) (by omega) (fun x10 ex10 => ?_)
  replace hF := hF.trans (dv_bn (ex10.symm))
  refine lv_iload_n hx hb gX12_isMovable_4.1 rfl (lv_at hl 0 rfl) ?_
  have hIo := hB.1
  refine th_iastF hC hB hb1 (Or.inl hb1) ro_48 rfl (by decide) (Eq.refl _) (by omega) (by omega) (by rw [(ek_a (by omega) (by omega))]; exact th_sIa) gX12_isMovable_4.2.1 (fun H49 locs hB hf49 hst49 => ?_)
  have hf := hf49
  have mm11 := (th_F_o hf h0 ro_46 (j := 2) (by decide) (by decide)).trans mm9
  have hRC := th_RC_F hB.1 hRC hf (th_T_s hb1 ro_48 hst49) (by decide)
  replace hF := hF.trans (dv_bn (dv_stoI hIo hB.1 hU hb1 ow_48 (i := x10.toInt) hst49 (Eq.refl _) (by omega)))
  have vs49 : mo_v G H49 a0 2 = mo_u (mo_v G H39 a0 2) (18 + p1.toInt) x5.toInt := by rw [show ((18 + p1.toInt) : Int) = x10.toInt by omega]; exact mo_v_st h0 hb1 (by decide) mm9 hst49 (by omega)
  have eqv : mo_v G H49 a0 2 = mo_v G H0 a0 2 := by rw [vs49, vs39, vv_H27_2, z22_0]; funext z; by_cases qa : z = 18 + p1.toInt; rw [mo_us qa, qa]; omega; rw [mo_un qa]; by_cases qb : z = 9 + p1.toInt; rw [mo_us qb, qb]; omega; rw [mo_un qb, mo_un qa, mo_un qb]
  have hR : th_RK a0 G Γ H49 := ⟨hRC, by rw [eqv]; exact hR0.2⟩
  refine lv_aload_n hx hb gX12_isMovable_4.2.2.1 rfl (lv_at hl 2 rfl) ?_
  refine th_getI (j := 41) hC cf_X12 hB.1 h0 ro_46 rfl rfl kf_X12_406 gX12_isMovable_4.2.2.2.1 (fun x12 mx12 lx12 ux12 => ?_)
  replace hF := hF.trans (dv_bn (dv_getI h0 ro_46 (j := 41) rfl mx12 (by decide)))
  refine lv_iconst (v := 1) hx hb gX12_isMovable_4.2.2.2.2.1 (by decide) ?_
  refine tr_icmp_ne (tgt := 80) hx hb gX12_isMovable_4.2.2.2.2.2.1 (by decide) (Eq.refl _) tk_1 (fun c55 => ?_) (fun c55 => ?_)
  · replace hF := hF.trans (if_pos c55)
    refine lv_iconst (v := 0) hx hb gX12_isMovable_6.2.2.1 (by decide) ?_
    exact th_iret hC hH hr hlocks narrow_b0 hB.2.1 ⟨_, rfl, by decide, by decide, hB.1, hB.2.2, hR, eqv, (hF0.symm.trans (hF.trans (by rw [tk_0])))⟩ gX12_isMovable_6.2.2.2
  · replace hF := hF.trans (if_neg (not_not_intro c55))
    refine lv_aload_n hx hb gX12_isMovable_4.2.2.2.2.2.2.1 rfl (lv_at hl 2 rfl) ?_
    refine th_getI (j := 42) hC cf_X12 hB.1 h0 ro_46 rfl rfl kf_X12_415 gX12_isMovable_4.2.2.2.2.2.2.2 (fun x13 mx13 lx13 ux13 => ?_)
    replace hF := hF.trans (dv_bn (dv_getI h0 ro_46 (j := 42) rfl mx13 (by decide)))
    refine lv_iconst (v := 1) hx hb gX12_isMovable_5.1 (by decide) ?_
    refine tr_icmp_ne (tgt := 76) hx hb gX12_isMovable_5.2.1 (by decide) (Eq.refl _) tk_1 (fun c63 => ?_) (fun c63 => ?_)
    · replace hF := hF.trans (if_pos c63)
      refine lv_iconst (v := 1) hx hb gX12_isMovable_6.1 (by decide) ?_
      refine lv_goto (tgt := 81) hx hb gX12_isMovable_6.2.1 (by decide) ?_
      exact th_iret hC hH hr hlocks narrow_b1 hB.2.1 ⟨_, rfl, by decide, by decide, hB.1, hB.2.2, hR, eqv, (hF0.symm.trans (hF.trans (by rw [tk_1])))⟩ gX12_isMovable_6.2.2.2
    · replace hF := hF.trans (if_neg (not_not_intro c63))
      refine lv_aload_n hx hb gX12_isMovable_5.2.2.1 rfl (lv_at hl 2 rfl) ?_
      refine th_getO (j := 37) (r2 := 66) hC cf_X12 hB.1 h0 ro_46 rfl rfl kf_X12_87 gX12_isMovable_5.2.2.2.1 (fun b14 mb14 hb14 => ?_)
      refine lv_iconst (v := 0) hx hb gX12_isMovable_5.2.2.2.2.1 (by decide) ?_
      refine th_ialdF hC hB.1 hb14 ro_66 rfl tk_0 (by omega) (by omega) rfl gX12_isMovable_5.2.2.2.2.2.1 (fun x15 mx15 lx15 ux15 => ?_)
      replace hF := hF.trans (dv_bn (dv_aldI hB.1 hU hb14 ow_66 (z := 0) mx15 (by omega)))
      refine lv_iload_n hx hb gX12_isMovable_5.2.2.2.2.2.2.1 rfl (lv_at hl 3 rfl) ?_
      refine tr_icmp_eq (tgt := 80) hx hb gX12_isMovable_5.2.2.2.2.2.2.2 (by decide) (Eq.refl _) (Eq.refl _) (fun c73 => ?_) (fun c73 => ?_)
      · replace hF := hF.trans (if_pos c73)
        refine lv_iconst (v := 0) hx hb gX12_isMovable_6.2.2.1 (by decide) ?_
        exact th_iret hC hH hr hlocks narrow_b0 hB.2.1 ⟨_, rfl, by decide, by decide, hB.1, hB.2.2, hR, eqv, (hF0.symm.trans (hF.trans (by rw [tk_0])))⟩ gX12_isMovable_6.2.2.2
      · replace hF := hF.trans (if_neg c73)
        refine lv_iconst (v := 1) hx hb gX12_isMovable_6.1 (by decide) ?_
        refine lv_goto (tgt := 81) hx hb gX12_isMovable_6.2.1 (by decide) ?_
        exact th_iret hC hH hr hlocks narrow_b1 hB.2.1 ⟨_, rfl, by decide, by decide, hB.1, hB.2.2, hR, eqv, (hF0.symm.trans (hF.trans (by rw [tk_1])))⟩ gX12_isMovable_6.2.2.2

set_option maxHeartbeats 4000000 in
set_option maxRecDepth 100000 in
theorem c_X12_free (l : Launch) (G : th_G) (Γ : th_Ga) (H0 : Heap) (hI : th_I G Γ H0) (hU : dv_U Γ) (a0 : Nat) (h0 : Γ a0 = (46, 0)) (hR : th_RN a0 G Γ H0) : Met l yX12_free (.code yX12_free cX12_free 3 (some FieldType.int) :: th_tb) ({ frames := 55, cells := 0, slots := 0, locals := 1720 } : Room) (th_P [.ref a0] G H0) (th_Q (fun (v : Option Value) (H1 : Heap) => ∃ r : Int32, v = some (.int r) ∧ th_I G Γ H1 ∧ th_F G Γ [(46, 41), (46, 42), (46, 43), (67, 0), (66, 0), (59, 0), (64, 0), (65, 0), (46, 39), (46, 40), (63, 0), (46, 44), (46, 45), (46, 22), (46, 24), (58, 0), (46, 23), (46, 25), (48, 0)] H0 H1 ∧ th_RN a0 G Γ H1 ∧ (f_X12_free (dv G Γ H0) (a0 : Int) = (dv G Γ H1, r.toInt))) G) 0 0 (fun q => G.1.2.2 ≤ q) := by
  refine th_met RX12 (by decide) rfl (Nat.le_of_ble_eq_true rfl) ?_
  intro p e s m below meth c hC hH hr hlocks hnm ls hl
  have hx := hC.1
  have hb := hC.2.1
  have hB : th_B G Γ Γ [(46, 41), (46, 42), (46, 43), (67, 0), (66, 0), (59, 0), (64, 0), (65, 0), (46, 39), (46, 40), (63, 0), (46, 44), (46, 45), (46, 22), (46, 24), (58, 0), (46, 23), (46, 25), (48, 0)] H0 H0 [] := ⟨hI, va_S.rf, th_F_rf⟩
  have hl : lv_has ls 3 [(0, .ref a0)] := hl
  obtain ⟨F, hF0⟩ : ∃ F, F = f_X12_free (dv G Γ H0) ((a0 : Int)) := ⟨_, rfl⟩
  have hF := hF0.trans (f_X12_free.eq_1 (dv G Γ H0) ((a0 : Int)))
  refine lv_iconst (v := 0) hx hb gX12_free_0.1 (by decide) ?_
  refine lv_istore_n (lv' := [(1, .int 0), (0, .ref a0)]) hx hb gX12_free_0.2.1 rfl hl (by decide) rfl (fun ls hl => ?_)
  refine lv_iconst (v := 0) hx hb gX12_free_0.2.2.1 (by decide) ?_
  refine lv_istore_n (lv' := [(2, .int 0), (1, .int 0), (0, .ref a0)]) hx hb gX12_free_0.2.2.2.1 rfl hl (by decide) rfl (fun ls hl => ?_)
  have lp4 : ∀ (n4 : Nat) (H4 : Heap) (locs : List Loc) (ls : Array Slot) (j4_1 : Int32) (j4_2 : Int32), th_B G Γ Γ [(46, 41), (46, 42), (46, 43), (67, 0), (66, 0), (59, 0), (64, 0), (65, 0), (46, 39), (46, 40), (63, 0), (46, 44), (46, 45), (46, 22), (46, 24), (58, 0), (46, 23), (46, 25), (48, 0)] H0 H4 locs → th_RN a0 G Γ H4 → lv_has ls 3 [(0, .ref a0), (1, .int j4_1), (2, .int j4_2)] → F = dv_lp f_X12_free_4b (dv G Γ H4, (a0 : Int), j4_1.toInt, j4_2.toInt) → 0 ≤ j4_2.toInt → j4_2.toInt ≤ 9 → (2147483648 : Int) - j4_2.toInt ≤ (n4 : Int) → W p l e ({ frames := 55, cells := 0, slots := 0, locals := 1720 } : Room) s m ([.ref a0] : List Value).toArray below meth c H4 locs 0 0 (MQ below (th_Q (fun (v : Option Value) (H1 : Heap) => ∃ r : Int32, v = some (.int r) ∧ th_I G Γ H1 ∧ th_F G Γ [(46, 41), (46, 42), (46, 43), (67, 0), (66, 0), (59, 0), (64, 0), (65, 0), (46, 39), (46, 40), (63, 0), (46, 44), (46, 45), (46, 22), (46, 24), (58, 0), (46, 23), (46, 25), (48, 0)] H0 H1 ∧ th_RN a0 G Γ H1 ∧ (f_X12_free (dv G Γ H0) (a0 : Int) = (dv G Γ H1, r.toInt))) G) ([.ref a0] : List Value).toArray s 0 0 (fun q => G.1.2.2 ≤ q)) (F0 m 4 ls []) := by
    intro n4
    induction n4 with
    | zero => intro H4 locs ls j4_1 j4_2 hB hR hl hF g4_0 g4_1 hm4; exact absurd hm4 (by have := ti_hi j4_2; omega)
    | succ n4 ih4 =>
      intro H4 locs ls j4_1 j4_2 hB hR hl hF g4_0 g4_1 hm4
      have lj4_1 := ti_lo j4_1; have uj4_1 := ti_hi j4_1
      have lj4_2 := ti_lo j4_2; have uj4_2 := ti_hi j4_2
      have fv1_33 : mo_f G H4 a0 33 = mo_f G H0 a0 33 := mo_f_F hB.2.2 h0 (by decide) (by decide)
      have vw_H4_3 : mo_v G H4 a0 3 = mo_v G H0 a0 3 := mo_v_F (r := 49) hB.1 hB.2.2 h0 rfl ro_49 (by decide) (by decide)
      have vw_H4_4 : mo_v G H4 a0 4 = mo_v G H0 a0 4 := mo_v_F (r := 50) hB.1 hB.2.2 h0 rfl ro_50 (by decide) (by decide)
      have vw_H4_31 : mo_v G H4 a0 31 = mo_v G H0 a0 31 := mo_v_F (r := 61) hB.1 hB.2.2 h0 rfl ro_61 (by decide) (by decide)
      have hm4 : (2147483648 : Int) - j4_2.toInt ≤ (n4 : Int) + 1 := by omega
      replace hF := hF.trans (dv_lp_eq)
      replace hF := hF.trans (congrArg (dv_k f_X12_free_4b) (f_X12_free_4c.eq_1 (dv G Γ H4) ((a0 : Int)) (j4_1.toInt) (j4_2.toInt)))
      refine lv_iload_n hx hb gX12_free_0.2.2.2.2.1 rfl (lv_at hl 2 rfl) ?_
      refine lv_aload_n hx hb gX12_free_0.2.2.2.2.2.1 rfl (lv_at hl 0 rfl) ?_
      refine th_call (th_runV (As := []) (rest := [.int j4_2]) hC mf_X12_many km_X12_115 im_X12_many se_X12_many (c_X12_many l G Γ H4 hB.1 hU a0 h0) rfl rfl ⟨Nat.le_of_ble_eq_true rfl, Nat.le_of_ble_eq_true rfl⟩ hB.1 h0 ro_46 rfl rfl hl.1 rfl (Nat.le_of_ble_eq_true rfl) gX12_free_0.2.2.2.2.2.2.1 ⟨Nat.le_refl _, Nat.le_refl _⟩) hB.2.1 (fun v6 H6 locs hp hz hS => ?_)
      obtain ⟨x2, rfl, lx2, ux2, q6_0, q6_1, rfl⟩ := hp
      have hB := th_B_s hB hS
      replace hF := hF.trans (congrArg (dv_k f_X12_free_4b) (dv_bn2 (q6_1)))
      refine W.eq (g2 := F0 m 9 ls [.int x2, .int j4_2]) rfl ?_
      refine tr_icmp_ge (tgt := 44) hx hb gX12_free_0.2.2.2.2.2.2.2 (by decide) (Eq.refl _) (Eq.refl _) (fun c9 => ?_) (fun c9 => ?_)
      · replace hF := hF.trans (congrArg (dv_k f_X12_free_4b) (if_pos c9))
        refine lv_iload_n hx hb gX12_free_3.2.2.1 rfl (lv_at hl 1 rfl) ?_
        replace hF := hF.trans (dv_kr)
        exact th_iret hC hH hr hlocks rfl hB.2.1 ⟨_, rfl, hB.1, hB.2.2, hR, (hF0.symm.trans hF)⟩ gX12_free_3.2.2.2
      · replace hF := hF.trans (congrArg (dv_k f_X12_free_4b) (if_neg (Int.not_le.mpr c9)))
        refine lv_iload_n hx hb gX12_free_1.1 rfl (lv_at hl 1 rfl) ?_
        refine lv_aload_n hx hb gX12_free_1.2.1 rfl (lv_at hl 0 rfl) ?_
        refine lv_iload_n hx hb gX12_free_1.2.2.1 rfl (lv_at hl 2 rfl) ?_
        refine th_call (th_runV (As := [.int j4_2]) (rest := [.int j4_1]) hC mf_X12_isLaid km_X12_137 im_X12_isLaid se_X12_isLaid (c_X12_isLaid l G Γ H4 hB.1 hU a0 h0 j4_2 (by omega) (by omega)) rfl rfl ⟨Nat.le_of_ble_eq_true rfl, Nat.le_of_ble_eq_true rfl⟩ hB.1 h0 ro_46 rfl rfl hl.1 rfl (Nat.le_of_ble_eq_true rfl) gX12_free_1.2.2.2.1 ⟨Nat.le_refl _, Nat.le_refl _⟩) hB.2.1 (fun v15 H15 locs hp hz hS => ?_)
        obtain ⟨x3, rfl, lx3, ux3, q15_0, q15_1, q15_2, rfl⟩ := hp
        have hB := th_B_s hB hS
        replace hF := hF.trans (congrArg (dv_k f_X12_free_4b) (dv_bn2 (q15_2)))
        refine W.eq (g2 := F0 m 18 ls [.int x3, .int j4_1]) rfl ?_
        refine tr_if_eq (tgt := 35) hx hb gX12_free_1.2.2.2.2.1 (by decide) (Eq.refl _) (fun c18 => ?_) (fun c18 => ?_)
        · replace hF := hF.trans (congrArg (dv_k f_X12_free_4b) (if_pos c18))
          refine lv_iconst (v := 0) hx hb gX12_free_2.2.2.2.2.2.1 (by decide) ?_
          refine lv_ior hx hb gX12_free_2.2.2.2.2.2.2.1 ?_
          refine lv_topi (fun x4 ex4 => ?_)
          have lx4 := ti_lo x4; have ux4 := ti_hi x4
          replace hF := hF.trans (congrArg (dv_k f_X12_free_4b) (dv_bn (dv_or_e (Eq.refl _) tk_0 ex4)))
          refine lv_istore_n (lv' := [(1, .int x4), (0, .ref a0), (2, .int j4_2)]) hx hb gX12_free_2.2.2.2.2.2.2.2 rfl hl (by decide) rfl (fun ls hl => ?_)
          refine tr_iinc (fun x5 => [(2, .int x5), (1, .int x4), (0, .ref a0)]) hx hb gX12_free_3.1 hl (k := 2) rfl (Eq.refl _) tk_1 (by omega) (by omega) (by decide) (fun _ => rfl) (fun x5 ls ex5 hl => ?_)
          replace hF := hF.trans (congrArg (dv_k f_X12_free_4b) (dv_bn (ex5.symm)))
          refine lv_goto (tgt := 4) hx hb gX12_free_3.2.1 (by decide) ?_
          replace hF := hF.trans (dv_kl)
          exact ih4 H4 locs ls x4 x5 hB hR (lv_sub hl [2, 1, 0] rfl) hF (by omega) (by omega) (by omega)
        · replace hF := hF.trans (congrArg (dv_k f_X12_free_4b) (if_neg c18))
          refine lv_aload_n hx hb gX12_free_1.2.2.2.2.2.1 rfl (lv_at hl 0 rfl) ?_
          refine lv_iload_n hx hb gX12_free_1.2.2.2.2.2.2.1 rfl (lv_at hl 2 rfl) ?_
          refine th_call (th_runV (As := [.int j4_2]) (rest := [.int j4_1]) hC mf_X12_isMovable km_X12_452 im_X12_isMovable se_X12_isMovable (c_X12_isMovable l G Γ H4 hB.1 hU a0 h0 (th_NK hR) j4_2 (by omega) (by omega)) rfl rfl ⟨Nat.le_of_ble_eq_true rfl, Nat.le_of_ble_eq_true rfl⟩ hB.1 h0 ro_46 rfl rfl hl.1 rfl (Nat.le_of_ble_eq_true rfl) gX12_free_1.2.2.2.2.2.2.2 ⟨Nat.le_refl _, Nat.le_refl _⟩) hB.2.1 (fun v23 H23 locs hp hz hS => ?_)
          have hRD := hR
          obtain ⟨x6, rfl, lx6, ux6, hI1, hf, hR, z23_0, z23_1⟩ := hp
          have hRc23 := hR
          have hR := hRD
          have hRC := hRc23.1
          have hB := th_B_c hB hI1 hS hf (by decide)
          have fv_H23_33 : mo_f G H23 a0 33 = mo_f G H4 a0 33 := mo_f_F hf h0 (by decide) (by decide)
          have vv_H23_3 : mo_v G H23 a0 3 = mo_v G H4 a0 3 := mo_v_F (r := 49) hB.1 hf h0 rfl ro_49 (by decide) (by decide)
          have vv_H23_4 : mo_v G H23 a0 4 = mo_v G H4 a0 4 := mo_v_F (r := 50) hB.1 hf h0 rfl ro_50 (by decide) (by decide)
          have vv_H23_31 : mo_v G H23 a0 31 = mo_v G H4 a0 31 := mo_v_F (r := 61) hB.1 hf h0 rfl ro_61 (by decide) (by decide)
          replace hF := hF.trans (congrArg (dv_k f_X12_free_4b) (dv_bn2 (z23_1)))
          refine W.eq (g2 := F0 m 26 ls [.int x6, .int j4_1]) rfl ?_
          have hR : th_RN a0 G Γ H23 := ⟨hRC, by rw [z23_0, vv_H23_3, vv_H23_4, vv_H23_31, fv_H23_33]; exact hR.2⟩
          refine tr_if_eq (tgt := 35) hx hb gX12_free_2.1 (by decide) (Eq.refl _) (fun c26 => ?_) (fun c26 => ?_)
          · replace hF := hF.trans (congrArg (dv_k f_X12_free_4b) (if_pos c26))
            refine lv_iconst (v := 0) hx hb gX12_free_2.2.2.2.2.2.1 (by decide) ?_
            refine lv_ior hx hb gX12_free_2.2.2.2.2.2.2.1 ?_
            refine lv_topi (fun x7 ex7 => ?_)
            have lx7 := ti_lo x7; have ux7 := ti_hi x7
            replace hF := hF.trans (congrArg (dv_k f_X12_free_4b) (dv_bn (dv_or_e (Eq.refl _) tk_0 ex7)))
            refine lv_istore_n (lv' := [(1, .int x7), (0, .ref a0), (2, .int j4_2)]) hx hb gX12_free_2.2.2.2.2.2.2.2 rfl hl (by decide) rfl (fun ls hl => ?_)
            refine tr_iinc (fun x8 => [(2, .int x8), (1, .int x7), (0, .ref a0)]) hx hb gX12_free_3.1 hl (k := 2) rfl (Eq.refl _) tk_1 (by omega) (by omega) (by decide) (fun _ => rfl) (fun x8 ls ex8 hl => ?_)
            replace hF := hF.trans (congrArg (dv_k f_X12_free_4b) (dv_bn (ex8.symm)))
            refine lv_goto (tgt := 4) hx hb gX12_free_3.2.1 (by decide) ?_
            replace hF := hF.trans (dv_kl)
            exact ih4 H23 locs ls x7 x8 hB hR (lv_sub hl [2, 1, 0] rfl) hF (by omega) (by omega) (by omega)
          · replace hF := hF.trans (congrArg (dv_k f_X12_free_4b) (if_neg c26))
            refine lv_iconst (v := 1) hx hb gX12_free_2.2.1 (by decide) ?_
            refine lv_iload_n hx hb gX12_free_2.2.2.1 rfl (lv_at hl 2 rfl) ?_
            refine lv_ishl hx hb gX12_free_2.2.2.2.1 ?_
            refine lv_topi (fun x9 ex9 => ?_)
            have lx9 := ti_lo x9; have ux9 := ti_hi x9
            replace hF := hF.trans (congrArg (dv_k f_X12_free_4b) (dv_bn (dv_shl_e tk_1 (Eq.refl _) ex9)))
            refine lv_goto (tgt := 36) hx hb gX12_free_2.2.2.2.2.1 (by decide) ?_
            refine lv_ior hx hb gX12_free_2.2.2.2.2.2.2.1 ?_
            refine lv_topi (fun x10 ex10 => ?_)
            have lx10 := ti_lo x10; have ux10 := ti_hi x10
            replace hF := hF.trans (congrArg (dv_k f_X12_free_4b) (dv_bn (dv_or_e (Eq.refl _) (Eq.refl _) ex10)))
            refine lv_istore_n (lv' := [(1, .int x10), (0, .ref a0), (2, .int j4_2)]) hx hb gX12_free_2.2.2.2.2.2.2.2 rfl hl (by decide) rfl (fun ls hl => ?_)
            refine tr_iinc (fun x11 => [(2, .int x11), (1, .int x10), (0, .ref a0)]) hx hb gX12_free_3.1 hl (k := 2) rfl (Eq.refl _) tk_1 (by omega) (by omega) (by decide) (fun _ => rfl) (fun x11 ls ex11 hl => ?_)
            replace hF := hF.trans (congrArg (dv_k f_X12_free_4b) (dv_bn (ex11.symm)))
            refine lv_goto (tgt := 4) hx hb gX12_free_3.2.1 (by decide) ?_
            replace hF := hF.trans (dv_kl)
            exact ih4 H23 locs ls x10 x11 hB hR (lv_sub hl [2, 1, 0] rfl) hF (by omega) (by omega) (by omega)
  exact lp4 ((2147483648 : Int) - (0)).toNat H0 [] ls 0 0 hB hR (lv_sub hl [2, 1, 0] rfl) (by rw [tk_0]; exact hF) (by decide) (by decide) (by have w0 := tk_0; omega)

set_option maxHeartbeats 4000000 in
set_option maxRecDepth 100000 in
theorem c_X12_compare (l : Launch) (G : th_G) (Γ : th_Ga) (H0 : Heap) (hI : th_I G Γ H0) (hU : dv_U Γ) (a0 : Nat) (h0 : Γ a0 = (46, 0)) (hR : th_RN a0 G Γ H0) (p1 : Int32) : Met l yX12_compare (.code yX12_compare cX12_compare 4 (some FieldType.int) :: th_tb) ({ frames := 55, cells := 0, slots := 0, locals := 1717 } : Room) (th_P [.ref a0, .int p1] G H0) (th_Q (fun (v : Option Value) (H1 : Heap) => ∃ r : Int32, v = some (.int r) ∧ th_I G Γ H1 ∧ th_F G Γ [(46, 41), (46, 42), (46, 43), (67, 0), (66, 0), (59, 0), (64, 0), (65, 0), (46, 39), (46, 40), (63, 0), (46, 44), (46, 45), (46, 22), (46, 24), (58, 0), (46, 23), (46, 25), (48, 0)] H0 H1 ∧ th_RN a0 G Γ H1 ∧ (f_X12_compare (dv G Γ H0) (a0 : Int) p1.toInt = (dv G Γ H1, r.toInt))) G) 0 0 (fun q => G.1.2.2 ≤ q) := by
  refine th_met RX12 (by decide) rfl (Nat.le_of_ble_eq_true rfl) ?_
  intro p e s m below meth c hC hH hr hlocks hnm ls hl
  have hx := hC.1
  have hb := hC.2.1
  have hB : th_B G Γ Γ [(46, 41), (46, 42), (46, 43), (67, 0), (66, 0), (59, 0), (64, 0), (65, 0), (46, 39), (46, 40), (63, 0), (46, 44), (46, 45), (46, 22), (46, 24), (58, 0), (46, 23), (46, 25), (48, 0)] H0 H0 [] := ⟨hI, va_S.rf, th_F_rf⟩
  have hl : lv_has ls 4 [(0, .ref a0), (1, .int p1)] := hl
  have lp1 := ti_lo p1; have up1 := ti_hi p1
  obtain ⟨F, hF0⟩ : ∃ F, F = f_X12_compare (dv G Γ H0) ((a0 : Int)) (p1.toInt) := ⟨_, rfl⟩
  have hF := hF0.trans (f_X12_compare.eq_1 (dv G Γ H0) ((a0 : Int)) (p1.toInt))
  refine lv_aload_n hx hb gX12_compare_0.1 rfl (lv_at hl 0 rfl) ?_
  have f0 := hR.2.1.1.1
  refine lv_iload_n hx hb gX12_compare_0.2.1 rfl (lv_at hl 1 rfl) ?_
  refine th_call (th_runV (As := [.int p1]) (rest := []) hC mf_X12_isLaw km_X12_275 im_X12_isLaw se_X12_isLaw (c_X12_isLaw l G Γ H0 hB.1 hU a0 h0 p1) rfl rfl ⟨Nat.le_of_ble_eq_true rfl, Nat.le_of_ble_eq_true rfl⟩ hB.1 h0 ro_46 rfl rfl hl.1 rfl (Nat.le_of_ble_eq_true rfl) gX12_compare_0.2.2.1 ⟨Nat.le_refl _, Nat.le_refl _⟩) hB.2.1 (fun v2 H2 locs hp hz hS => ?_)
  obtain ⟨x1, rfl, lx1, ux1, q2_0, q2_1, rfl⟩ := hp
  have hB := th_B_s hB hS
  replace hF := hF.trans (dv_bn2 (q2_1))
  refine W.eq (g2 := F0 m 5 ls [.int x1]) rfl ?_
  refine tr_if_ne (tgt := 10) hx hb gX12_compare_0.2.2.2.1 (by decide) (Eq.refl _) (fun c5 => ?_) (fun c5 => ?_)
  · replace hF := hF.trans (if_pos c5)
    refine lv_aload_n hx hb gX12_compare_0.2.2.2.2.2.2.1 rfl (lv_at hl 0 rfl) ?_
    refine th_getO (j := 2) (r2 := 48) hC cf_X12 hB.1 h0 ro_46 rfl rfl kf_X12_28 gX12_compare_0.2.2.2.2.2.2.2 (fun b2 mb2 hb2 => ?_)
    refine lv_bipush (v := 72) hx hb gX12_compare_1.1 (by decide) ?_
    refine th_ialdF hC hB.1 hb2 ro_48 rfl tk_72 (by omega) (by omega) (ek_force (by omega) (by omega)) gX12_compare_1.2.1 (fun x3 mx3 lx3 ux3 => ?_)
    replace hF := hF.trans (dv_bn (dv_aldI hB.1 hU hb2 ow_48 (z := 72) mx3 (by omega)))
    have vgx3 : mo_v G H0 a0 2 72 = x3.toInt := by rw [show (72 : Int) = 72 by omega]; exact mo_vat mb2 mx3 (by omega)
    refine lv_istore_n (lv' := [(2, .int x3), (0, .ref a0), (1, .int p1)]) hx hb gX12_compare_1.2.2.1 rfl hl (by decide) rfl (fun ls hl => ?_)
    refine lv_aload_n hx hb gX12_compare_1.2.2.2.1 rfl (lv_at hl 1 rfl) ?_
    refine th_getK hC cf_X12 hB.1 h0 ro_46 rfl (j := 2) (by decide) mb2 kf_X12_28 gX12_compare_1.2.2.2.2.1 ?_
    refine lv_bipush (v := 72) hx hb gX12_compare_1.2.2.2.2.2.1 (by decide) ?_
    refine lv_iload_n hx hb gX12_compare_1.2.2.2.2.2.2.1 rfl (lv_at hl 2 rfl) ?_
    have hIo := hB.1
    refine th_iastF hC hB hb2 (Or.inl hb2) ro_48 rfl (by decide) tk_72 (by omega) (by omega) (by rw [(ek_force (by omega) (by omega))]; exact (th_sI (by omega) (by omega))) gX12_compare_1.2.2.2.2.2.2.2 (fun H25 locs hB hf25 hst25 => ?_)
    have hf := hf25
    have mm4 := (th_F_o hf h0 ro_46 (j := 2) (by decide) (by decide)).trans mb2
    have hRC := th_RC_F hB.1 hR.1 hf (th_T_s hb2 ro_48 hst25) (by decide)
    have fv_H25_33 : mo_f G H25 a0 33 = mo_f G H0 a0 33 := mo_f_F hf h0 (by decide) (by decide)
    have vv_H25_3 : mo_v G H25 a0 3 = mo_v G H0 a0 3 := mo_v_F (r := 49) hB.1 hf h0 rfl ro_49 (by decide) (by decide)
    have vv_H25_4 : mo_v G H25 a0 4 = mo_v G H0 a0 4 := mo_v_F (r := 50) hB.1 hf h0 rfl ro_50 (by decide) (by decide)
    have vv_H25_31 : mo_v G H25 a0 31 = mo_v G H0 a0 31 := mo_v_F (r := 61) hB.1 hf h0 rfl ro_61 (by decide) (by decide)
    replace hF := hF.trans (dv_bn (dv_stoI hIo hB.1 hU hb2 ow_48 (i := 72) hst25 (Eq.refl _) (by omega)))
    have vs25 : mo_v G H25 a0 2 = mo_u (mo_v G H0 a0 2) 72 p1.toInt := by rw [show (72 : Int) = 72 by omega]; exact mo_v_st h0 hb2 (by decide) mb2 hst25 (by omega)
    have hR : th_RN a0 G Γ H25 := ⟨hRC, by rw [vs25, vv_H25_3, vv_H25_4, vv_H25_31, fv_H25_33]; exact mo_ok_f hR.2 (by omega)⟩
    refine lv_aload_n hx hb gX12_compare_2.1 rfl (lv_at hl 1 rfl) ?_
    refine th_call (th_runV (As := []) (rest := []) hC mf_X12_cheapest km_X12_449 im_X12_cheapest se_X12_cheapest (c_X12_cheapest l G Γ H25 hB.1 hU a0 h0 (th_NK hR)) rfl rfl ⟨Nat.le_of_ble_eq_true rfl, Nat.le_of_ble_eq_true rfl⟩ hB.1 h0 ro_46 rfl rfl hl.1 rfl (Nat.le_of_ble_eq_true rfl) gX12_compare_2.2.1 ⟨Nat.le_refl _, Nat.le_refl _⟩) hB.2.1 (fun v27 H27 locs hp hz hS => ?_)
    have hRD := hR
    obtain ⟨x5, rfl, hI1, hf, hR, z27_0⟩ := hp
    have hR := th_RN_c hR.1 hRD hI1 h0 hf (by decide)
    have hB := th_B_c hB hI1 hS hf (by decide)
    have mm6 := (th_F_o hf h0 ro_46 (j := 2) (by decide) (by decide)).trans mm4
    have fv_H27_33 : mo_f G H27 a0 33 = mo_f G H25 a0 33 := mo_f_F hf h0 (by decide) (by decide)
    have vv_H27_2 : mo_v G H27 a0 2 = mo_v G H25 a0 2 := mo_v_F (r := 48) hB.1 hf h0 rfl ro_48 (by decide) (by decide)
    have vv_H27_3 : mo_v G H27 a0 3 = mo_v G H25 a0 3 := mo_v_F (r := 49) hB.1 hf h0 rfl ro_49 (by decide) (by decide)
    have vv_H27_4 : mo_v G H27 a0 4 = mo_v G H25 a0 4 := mo_v_F (r := 50) hB.1 hf h0 rfl ro_50 (by decide) (by decide)
    have vv_H27_31 : mo_v G H27 a0 31 = mo_v G H25 a0 31 := mo_v_F (r := 61) hB.1 hf h0 rfl ro_61 (by decide) (by decide)
    replace hF := hF.trans (dv_bn2 (z27_0))
    refine W.eq (g2 := F0 m 30 ls [.int x5]) rfl ?_
    refine lv_istore_n (lv' := [(3, .int x5), (2, .int x3), (0, .ref a0), (1, .int p1)]) hx hb gX12_compare_2.2.2.1 rfl hl (by decide) rfl (fun ls hl => ?_)
    refine lv_aload_n hx hb gX12_compare_2.2.2.2.1 rfl (lv_at hl 2 rfl) ?_
    refine th_getK hC cf_X12 hB.1 h0 ro_46 rfl (j := 2) (by decide) mm6 kf_X12_28 gX12_compare_2.2.2.2.2.1 ?_
    refine lv_bipush (v := 72) hx hb gX12_compare_2.2.2.2.2.2.1 (by decide) ?_
    refine lv_iload_n hx hb gX12_compare_2.2.2.2.2.2.2.1 rfl (lv_at hl 1 rfl) ?_
    have hIo := hB.1
    refine th_iastF hC hB hb2 (Or.inl hb2) ro_48 rfl (by decide) tk_72 (by omega) (by omega) (by rw [(ek_force (by omega) (by omega))]; exact (th_sI (by omega) (by omega))) gX12_compare_2.2.2.2.2.2.2.2 (fun H38 locs hB hf38 hst38 => ?_)
    have hf := hf38
    have mm7 := (th_F_o hf h0 ro_46 (j := 2) (by decide) (by decide)).trans mm6
    have hRC := th_RC_F hB.1 hR.1 hf (th_T_s hb2 ro_48 hst38) (by decide)
    have fv_H38_33 : mo_f G H38 a0 33 = mo_f G H27 a0 33 := mo_f_F hf h0 (by decide) (by decide)
    have vv_H38_3 : mo_v G H38 a0 3 = mo_v G H27 a0 3 := mo_v_F (r := 49) hB.1 hf h0 rfl ro_49 (by decide) (by decide)
    have vv_H38_4 : mo_v G H38 a0 4 = mo_v G H27 a0 4 := mo_v_F (r := 50) hB.1 hf h0 rfl ro_50 (by decide) (by decide)
    have vv_H38_31 : mo_v G H38 a0 31 = mo_v G H27 a0 31 := mo_v_F (r := 61) hB.1 hf h0 rfl ro_61 (by decide) (by decide)
    replace hF := hF.trans (dv_bn (dv_stoI hIo hB.1 hU hb2 ow_48 (i := 72) hst38 (Eq.refl _) (by omega)))
    have vs38 : mo_v G H38 a0 2 = mo_u (mo_v G H27 a0 2) 72 x3.toInt := by rw [show (72 : Int) = 72 by omega]; exact mo_v_st h0 hb2 (by decide) mm6 hst38 (by omega)
    have hR : th_RN a0 G Γ H38 := ⟨hRC, by rw [vs38, vv_H38_3, vv_H38_4, vv_H38_31, fv_H38_33]; exact mo_ok_f hR.2 (by rw [vv_H27_2, vs25, mo_un (by omega)]; omega)⟩
    refine lv_iload_n hx hb gX12_compare_3.1 rfl (lv_at hl 0 rfl) ?_
    exact th_iret hC hH hr hlocks rfl hB.2.1 ⟨_, rfl, hB.1, hB.2.2, hR, (hF0.symm.trans hF)⟩ gX12_compare_3.2
  · replace hF := hF.trans (if_neg (not_not_intro c5))
    refine lv_iconst (v := (-1)) hx hb gX12_compare_0.2.2.2.2.1 (by decide) ?_
    exact th_iret hC hH hr hlocks rfl hB.2.1 ⟨_, rfl, hB.1, hB.2.2, hR, (hF0.symm.trans (hF.trans (by rw [tk_m1])))⟩ gX12_compare_0.2.2.2.2.2.1

set_option maxHeartbeats 4000000 in
set_option maxRecDepth 100000 in
theorem c_X12_goesAlong (l : Launch) (G : th_G) (Γ : th_Ga) (H0 : Heap) (hI : th_I G Γ H0) (hR : th_RC G Γ H0) (hU : dv_U Γ) (a0 : Nat) (h0 : Γ a0 = (46, 0)) (p1 : Int32) (f1 : 2400 ≤ p1.toInt) (g1 : p1.toInt ≤ 2800) (p2 : Int32) (f2 : 0 ≤ p2.toInt) (g2 : p2.toInt ≤ 1) (i j : Int) (k1 : mo_f G H0 a0 48 = 2400 + i) (k2 : 0 ≤ i ∧ j ≤ p1.toInt - 2400) (k3 : mo_ord (mo_tf (mo_v G H0 a0 2) 2480 (p1.toInt - 2400)) i j) : Met l yX12_goesAlong (.code yX12_goesAlong cX12_goesAlong 5 (none) :: th_tb) ({ frames := 50, cells := 0, slots := 0, locals := 1594 } : Room) (th_P [.ref a0, .int p1, .int p2] G H0) (th_Q (fun (v : Option Value) (H1 : Heap) => v = none ∧ th_I G Γ H1 ∧ th_F G Γ [(46, 22), (46, 24), (46, 23), (46, 25), (46, 49), (46, 50), (46, 51), (46, 52), (69, 0)] H0 H1 ∧ th_RC G Γ H1 ∧ (mo_f G H1 a0 22 = 2400 + j + 1) ∧ (f_X12_goesAlong (dv G Γ H0) (a0 : Int) p1.toInt p2.toInt = (dv G Γ H1, 0))) G) 0 0 (fun q => G.1.2.2 ≤ q) := by
  refine th_met RX12 (by decide) rfl (Nat.le_of_ble_eq_true rfl) ?_
  intro p e s m below meth c hC hH hr hlocks hnm ls hl
  have hx := hC.1
  have hb := hC.2.1
  have hB : th_B G Γ Γ [(46, 22), (46, 24), (46, 23), (46, 25), (46, 49), (46, 50), (46, 51), (46, 52), (69, 0)] H0 H0 [] := ⟨hI, va_S.rf, th_F_rf⟩
  have hl : lv_has ls 5 [(0, .ref a0), (1, .int p1), (2, .int p2)] := hl
  have lp1 := ti_lo p1; have up1 := ti_hi p1
  have lp2 := ti_lo p2; have up2 := ti_hi p2
  obtain ⟨F, hF0⟩ : ∃ F, F = f_X12_goesAlong (dv G Γ H0) ((a0 : Int)) (p1.toInt) (p2.toInt) := ⟨_, rfl⟩
  have hF := hF0.trans (f_X12_goesAlong.eq_1 (dv G Γ H0) ((a0 : Int)) (p1.toInt) (p2.toInt))
  refine lv_aload_n hx hb gX12_goesAlong_0.1 rfl (lv_at hl 0 rfl) ?_
  obtain ⟨B, eB⟩ : ∃ B : Int, B = 2400 := ⟨_, rfl⟩
  obtain ⟨n0, en0⟩ : ∃ n : Int, n = p1.toInt - 2400 := ⟨_, rfl⟩
  obtain ⟨T, eT⟩ : ∃ T : Int → Int, T = mo_tf (mo_v G H0 a0 2) (80 + B) n0 := ⟨_, rfl⟩
  have od : mo_ord T i j := by rw [eT, eB, en0, show (80 + 2400 : Int) = 2480 by omega]; exact k3
  refine lv_iconst (v := 1) hx hb gX12_goesAlong_0.2.1 (by decide) ?_
  refine th_put hC cf_X12 hB h0 (Or.inl h0) ro_46 rfl (j := 25) rfl (th_sI (by decide) (by decide)) (by decide) rfl narrow_b1 rfl kf_X12_311 gX12_goesAlong_0.2.2.1 (fun H2 locs hB hf hst2 => ?_)
  have hR := th_RC_F hB.1 hR hf (th_T_s h0 ro_46 hst2) (by decide)
  have fv_H2_22 : mo_f G H2 a0 22 = mo_f G H0 a0 22 := mo_f_F hf h0 (by decide) (by decide)
  have fv_H2_23 : mo_f G H2 a0 23 = mo_f G H0 a0 23 := mo_f_F hf h0 (by decide) (by decide)
  have fv_H2_48 : mo_f G H2 a0 48 = mo_f G H0 a0 48 := mo_f_F hf h0 (by decide) (by decide)
  have fv_H2_50 : mo_f G H2 a0 50 = mo_f G H0 a0 50 := mo_f_F hf h0 (by decide) (by decide)
  have vv_H2_2 : mo_v G H2 a0 2 = mo_v G H0 a0 2 := mo_v_F (r := 48) hB.1 hf h0 rfl ro_48 (by decide) (by decide)
  replace hF := hF.trans (dv_bn (dv_putI hB.1 h0 ro_46 (j := 25) rfl (th_apart hC cf_X12) hst2 tk_1 (by decide)))
  have fp2 : mo_f G H2 a0 25 = 1 := (mo_f_St hst2).trans tk_1
  refine lv_aload_n hx hb gX12_goesAlong_0.2.2.2.1 rfl (lv_at hl 0 rfl) ?_
  refine lv_iload_n hx hb gX12_goesAlong_0.2.2.2.2.1 rfl (lv_at hl 1 rfl) ?_
  refine th_put hC cf_X12 hB h0 (Or.inl h0) ro_46 rfl (j := 23) rfl th_sIa (by decide) rfl rfl rfl kf_X12_278 gX12_goesAlong_0.2.2.2.2.2.1 (fun H7 locs hB hf hst7 => ?_)
  have hR := th_RC_F hB.1 hR hf (th_T_s h0 ro_46 hst7) (by decide)
  have fv_H7_22 : mo_f G H7 a0 22 = mo_f G H2 a0 22 := mo_f_F hf h0 (by decide) (by decide)
  have fv_H7_25 : mo_f G H7 a0 25 = mo_f G H2 a0 25 := mo_f_F hf h0 (by decide) (by decide)
  have fv_H7_48 : mo_f G H7 a0 48 = mo_f G H2 a0 48 := mo_f_F hf h0 (by decide) (by decide)
  have fv_H7_50 : mo_f G H7 a0 50 = mo_f G H2 a0 50 := mo_f_F hf h0 (by decide) (by decide)
  have vv_H7_2 : mo_v G H7 a0 2 = mo_v G H2 a0 2 := mo_v_F (r := 48) hB.1 hf h0 rfl ro_48 (by decide) (by decide)
  replace hF := hF.trans (dv_bn (dv_putI hB.1 h0 ro_46 (j := 23) rfl (th_apart hC cf_X12) hst7 (Eq.refl _) (by decide)))
  have fp7 : mo_f G H7 a0 23 = p1.toInt := mo_f_St hst7
  refine lv_aload_n hx hb gX12_goesAlong_0.2.2.2.2.2.2.1 rfl (lv_at hl 0 rfl) ?_
  refine lv_aload_n hx hb gX12_goesAlong_0.2.2.2.2.2.2.2 rfl (lv_at hl 0 rfl) ?_
  refine th_getI (j := 48) hC cf_X12 hB.1 h0 ro_46 rfl rfl kf_X12_480 gX12_goesAlong_1.1 (fun x1 mx1 lx1 ux1 => ?_)
  replace hF := hF.trans (dv_bn (dv_getI h0 ro_46 (j := 48) rfl mx1 (by decide)))
  have fg2 : mo_f G H7 a0 48 = x1.toInt := mo_fat mx1
  refine th_put hC cf_X12 hB h0 (Or.inl h0) ro_46 rfl (j := 22) rfl th_sIa (by decide) rfl rfl rfl kf_X12_281 gX12_goesAlong_1.2.1 (fun H15 locs hB hf hst15 => ?_)
  have hR := th_RC_F hB.1 hR hf (th_T_s h0 ro_46 hst15) (by decide)
  have fv_H15_23 : mo_f G H15 a0 23 = mo_f G H7 a0 23 := mo_f_F hf h0 (by decide) (by decide)
  have fv_H15_25 : mo_f G H15 a0 25 = mo_f G H7 a0 25 := mo_f_F hf h0 (by decide) (by decide)
  have fv_H15_48 : mo_f G H15 a0 48 = mo_f G H7 a0 48 := mo_f_F hf h0 (by decide) (by decide)
  have fv_H15_50 : mo_f G H15 a0 50 = mo_f G H7 a0 50 := mo_f_F hf h0 (by decide) (by decide)
  have vv_H15_2 : mo_v G H15 a0 2 = mo_v G H7 a0 2 := mo_v_F (r := 48) hB.1 hf h0 rfl ro_48 (by decide) (by decide)
  replace hF := hF.trans (dv_bn (dv_putI hB.1 h0 ro_46 (j := 22) rfl (th_apart hC cf_X12) hst15 (Eq.refl _) (by decide)))
  have fp15 : mo_f G H15 a0 22 = x1.toInt := mo_f_St hst15
  have mm3 := hst15.2.1
  refine lv_aload_n hx hb gX12_goesAlong_1.2.2.1 rfl (lv_at hl 0 rfl) ?_
  refine lv_aload_n hx hb gX12_goesAlong_1.2.2.2.1 rfl (lv_at hl 0 rfl) ?_
  refine lv_aload_n hx hb gX12_goesAlong_1.2.2.2.2.1 rfl (lv_at hl 0 rfl) ?_
  refine th_getK hC cf_X12 hB.1 h0 ro_46 rfl (j := 22) (by decide) mm3 kf_X12_281 gX12_goesAlong_1.2.2.2.2.2.1 ?_
  replace hF := hF.trans (dv_bn (dv_getI h0 ro_46 (j := 22) rfl mm3 (by decide)))
  have fg4 : mo_f G H15 a0 22 = x1.toInt := mo_fat mm3
  refine th_call (th_runV (As := [.int x1]) (rest := [.ref a0]) hC mf_X12_codeAt km_X12_284 im_X12_codeAt se_X12_codeAt (c_X12_codeAt l G Γ H15 hB.1 hU a0 h0 x1 (by omega) B (by omega) (by omega)) rfl rfl ⟨Nat.le_of_ble_eq_true rfl, Nat.le_of_ble_eq_true rfl⟩ hB.1 h0 ro_46 rfl rfl hl.1 rfl (Nat.le_of_ble_eq_true rfl) gX12_goesAlong_1.2.2.2.2.2.2.1 ⟨Nat.le_refl _, Nat.le_refl _⟩) hB.2.1 (fun v24 H24 locs hp hz hS => ?_)
  obtain ⟨x5, rfl, q24_0, q24_1, rfl⟩ := hp
  have hB := th_B_s hB hS
  replace hF := hF.trans (dv_bn2 (q24_1))
  refine W.eq (g2 := F0 m 27 ls [.int x5, .ref a0]) rfl ?_
  have cd24 : T i = x5.toInt := by have q9 := q24_0; rw [((mo_ce_T (mo_v_F (r := 48) hB.1 hB.2.2 h0 rfl ro_48 (by decide) (by decide)) (show mo_f G H15 a0 23 = B + n0 by omega)).trans eT.symm)] at q9; rw [q9]; congr 1; omega
  refine th_put hC cf_X12 hB h0 (Or.inl h0) ro_46 rfl (j := 50) rfl th_sIa (by decide) rfl rfl rfl kf_X12_489 gX12_goesAlong_1.2.2.2.2.2.2.2 (fun H27 locs hB hf hst27 => ?_)
  have mm6 := (th_F_o hf h0 ro_46 (j := 22) (by decide) (by decide)).trans mm3
  have hR := th_RC_F hB.1 hR hf (th_T_s h0 ro_46 hst27) (by decide)
  have fv_H27_22 : mo_f G H27 a0 22 = mo_f G H15 a0 22 := mo_f_F hf h0 (by decide) (by decide)
  have fv_H27_23 : mo_f G H27 a0 23 = mo_f G H15 a0 23 := mo_f_F hf h0 (by decide) (by decide)
  have fv_H27_25 : mo_f G H27 a0 25 = mo_f G H15 a0 25 := mo_f_F hf h0 (by decide) (by decide)
  have fv_H27_48 : mo_f G H27 a0 48 = mo_f G H15 a0 48 := mo_f_F hf h0 (by decide) (by decide)
  have vv_H27_2 : mo_v G H27 a0 2 = mo_v G H15 a0 2 := mo_v_F (r := 48) hB.1 hf h0 rfl ro_48 (by decide) (by decide)
  replace hF := hF.trans (dv_bn (dv_putI hB.1 h0 ro_46 (j := 50) rfl (th_apart hC cf_X12) hst27 (Eq.refl _) (by decide)))
  have fp27 : mo_f G H27 a0 50 = x5.toInt := mo_f_St hst27
  have mm7 := hst27.2.1
  refine lv_aload_n hx hb gX12_goesAlong_2.1 rfl (lv_at hl 0 rfl) ?_
  refine lv_dup hx hb gX12_goesAlong_2.2.1 rfl ?_
  refine th_getK hC cf_X12 hB.1 h0 ro_46 rfl (j := 22) (by decide) mm6 kf_X12_281 gX12_goesAlong_2.2.2.1 ?_
  replace hF := hF.trans (dv_bn (dv_getI h0 ro_46 (j := 22) rfl mm6 (by decide)))
  have fg8 : mo_f G H27 a0 22 = x1.toInt := mo_fat mm6
  have nz32 := mo_tf_nz (k := mo_v G H0 a0 2) (b := 80 + B) (n := n0) (i := i) (by rw [← eT]; exact mo_ord_nz od)
  refine lv_iconst (v := 1) hx hb gX12_goesAlong_2.2.2.2.1 (by decide) ?_
  refine tr_iadd hx hb gX12_goesAlong_2.2.2.2.2.1 (Eq.refl _) tk_1 (by omega) (by omega) (fun x9 ex9 => ?_)
  replace hF := hF.trans (dv_bn (ex9.symm))
  refine th_put hC cf_X12 hB h0 (Or.inl h0) ro_46 rfl (j := 22) rfl th_sIa (by decide) rfl rfl rfl kf_X12_281 gX12_goesAlong_2.2.2.2.2.2.1 (fun H37 locs hB hf hst37 => ?_)
  have mm10 := (th_F_o hf h0 ro_46 (j := 50) (by decide) (by decide)).trans mm7
  have hR := th_RC_F hB.1 hR hf (th_T_s h0 ro_46 hst37) (by decide)
  have fv_H37_23 : mo_f G H37 a0 23 = mo_f G H27 a0 23 := mo_f_F hf h0 (by decide) (by decide)
  have fv_H37_25 : mo_f G H37 a0 25 = mo_f G H27 a0 25 := mo_f_F hf h0 (by decide) (by decide)
  have fv_H37_48 : mo_f G H37 a0 48 = mo_f G H27 a0 48 := mo_f_F hf h0 (by decide) (by decide)
  have fv_H37_50 : mo_f G H37 a0 50 = mo_f G H27 a0 50 := mo_f_F hf h0 (by decide) (by decide)
  have vv_H37_2 : mo_v G H37 a0 2 = mo_v G H27 a0 2 := mo_v_F (r := 48) hB.1 hf h0 rfl ro_48 (by decide) (by decide)
  replace hF := hF.trans (dv_bn (dv_putI hB.1 h0 ro_46 (j := 22) rfl (th_apart hC cf_X12) hst37 (Eq.refl _) (by decide)))
  have fp37 : mo_f G H37 a0 22 = x9.toInt := mo_f_St hst37
  have mm11 := hst37.2.1
  refine lv_aload_n hx hb gX12_goesAlong_2.2.2.2.2.2.2.1 rfl (lv_at hl 0 rfl) ?_
  refine lv_iconst (v := 1) hx hb gX12_goesAlong_2.2.2.2.2.2.2.2 (by decide) ?_
  refine th_put hC cf_X12 hB h0 (Or.inl h0) ro_46 rfl (j := 51) rfl (th_sI (by decide) (by decide)) (by decide) rfl narrow_b1 rfl kf_X12_492 gX12_goesAlong_3.1 (fun H42 locs hB hf hst42 => ?_)
  have mm12 := (th_F_o hf h0 ro_46 (j := 50) (by decide) (by decide)).trans mm10
  have mm13 := (th_F_o hf h0 ro_46 (j := 22) (by decide) (by decide)).trans mm11
  have hR := th_RC_F hB.1 hR hf (th_T_s h0 ro_46 hst42) (by decide)
  have fv_H42_22 : mo_f G H42 a0 22 = mo_f G H37 a0 22 := mo_f_F hf h0 (by decide) (by decide)
  have fv_H42_23 : mo_f G H42 a0 23 = mo_f G H37 a0 23 := mo_f_F hf h0 (by decide) (by decide)
  have fv_H42_25 : mo_f G H42 a0 25 = mo_f G H37 a0 25 := mo_f_F hf h0 (by decide) (by decide)
  have fv_H42_48 : mo_f G H42 a0 48 = mo_f G H37 a0 48 := mo_f_F hf h0 (by decide) (by decide)
  have fv_H42_50 : mo_f G H42 a0 50 = mo_f G H37 a0 50 := mo_f_F hf h0 (by decide) (by decide)
  have vv_H42_2 : mo_v G H42 a0 2 = mo_v G H37 a0 2 := mo_v_F (r := 48) hB.1 hf h0 rfl ro_48 (by decide) (by decide)
  replace hF := hF.trans (dv_bn (dv_putI hB.1 h0 ro_46 (j := 51) rfl (th_apart hC cf_X12) hst42 tk_1 (by decide)))
  have mm14 := hst42.2.1
  refine lv_aload_n hx hb gX12_goesAlong_3.2.1 rfl (lv_at hl 0 rfl) ?_
  refine th_getK hC cf_X12 hB.1 h0 ro_46 rfl (j := 50) (by decide) mm12 kf_X12_489 gX12_goesAlong_3.2.2.1 ?_
  replace hF := hF.trans (dv_bn (dv_getI h0 ro_46 (j := 50) rfl mm12 (by decide)))
  have fg15 : mo_f G H42 a0 50 = x5.toInt := mo_fat mm12
  refine lv_bipush (v := 21) hx hb gX12_goesAlong_3.2.2.2.1 (by decide) ?_
  have jn72 : ∀ (locs : List Loc) (ls : Array Slot) (s72_0 : Int32), th_B G Γ Γ [(46, 22), (46, 24), (46, 23), (46, 25), (46, 49), (46, 50), (46, 51), (46, 52), (69, 0)] H0 H42 locs → lv_has ls 5 [(0, .ref a0), (2, .int p2)] → F = f_X12_goesAlong_72 (dv G Γ H42) ((a0 : Int)) (p2.toInt) (s72_0.toInt) → 0 ≤ s72_0.toInt → s72_0.toInt ≤ 3 → (∃ p q m : Int, mo_os T i j p q m s72_0.toInt) → W p l e ({ frames := 50, cells := 0, slots := 0, locals := 1594 } : Room) s m ([.ref a0, .int p1, .int p2] : List Value).toArray below meth c H42 locs 0 0 (MQ below (th_Q (fun (v : Option Value) (H1 : Heap) => v = none ∧ th_I G Γ H1 ∧ th_F G Γ [(46, 22), (46, 24), (46, 23), (46, 25), (46, 49), (46, 50), (46, 51), (46, 52), (69, 0)] H0 H1 ∧ th_RC G Γ H1 ∧ (mo_f G H1 a0 22 = 2400 + j + 1) ∧ (f_X12_goesAlong (dv G Γ H0) (a0 : Int) p1.toInt p2.toInt = (dv G Γ H1, 0))) G) ([.ref a0, .int p1, .int p2] : List Value).toArray s 0 0 (fun q => G.1.2.2 ≤ q)) (F0 m 72 ls [.int s72_0]) := by
    intro locs ls s72_0 hB hl hF g72_0 g72_1 g72_2
    have ls72_0 := ti_lo s72_0; have us72_0 := ti_hi s72_0
    replace hF := hF.trans (f_X12_goesAlong_72.eq_1 (dv G Γ H42) ((a0 : Int)) (p2.toInt) (s72_0.toInt))
    refine lv_istore_n (lv' := [(3, .int s72_0), (0, .ref a0), (2, .int p2)]) hx hb gX12_goesAlong_4.2.2.2.2.2.2.1 rfl hl (by decide) rfl (fun ls hl => ?_)
    obtain ⟨p_, q_, m_, o1, oS, oG, m2_, oT, oI⟩ := g72_2
    have g0 := mo_gs_0 (i := i) (p := p_) (q := q_) (m := m_)
    have lt72 := mo_tim_le oT
    have li72 := mo_if_le oI
    refine lv_iconst (v := 0) hx hb gX12_goesAlong_4.2.2.2.2.2.2.2 (by decide) ?_
    refine lv_istore (lv' := [(4, .int 0), (3, .int s72_0), (0, .ref a0), (2, .int p2)]) hx hb gX12_goesAlong_5.1 hl (by decide) rfl (fun ls hl => ?_)
    have lp76 : ∀ (n76 : Nat) (H76 : Heap) (locs : List Loc) (ls : Array Slot) (j76_4 : Int32), th_B G Γ Γ [(46, 22), (46, 24), (46, 23), (46, 25), (46, 49), (46, 50), (46, 51), (46, 52), (69, 0)] H0 H76 locs → th_RC G Γ H76 → lv_has ls 5 [(3, .int s72_0), (0, .ref a0), (2, .int p2), (4, .int j76_4)] → F = dv_lp f_X12_goesAlong_76b (dv G Γ H76, s72_0.toInt, (a0 : Int), p2.toInt, j76_4.toInt) → 0 ≤ j76_4.toInt → j76_4.toInt ≤ 3 → mo_f G H76 a0 22 = B + mo_go i p_ q_ m_ j76_4.toInt → mo_f G H76 a0 23 = B + n0 → mo_f G H76 a0 25 = 1 → j76_4.toInt ≤ s72_0.toInt → (2147483648 : Int) - j76_4.toInt ≤ (n76 : Int) → W p l e ({ frames := 50, cells := 0, slots := 0, locals := 1594 } : Room) s m ([.ref a0, .int p1, .int p2] : List Value).toArray below meth c H76 locs 0 0 (MQ below (th_Q (fun (v : Option Value) (H1 : Heap) => v = none ∧ th_I G Γ H1 ∧ th_F G Γ [(46, 22), (46, 24), (46, 23), (46, 25), (46, 49), (46, 50), (46, 51), (46, 52), (69, 0)] H0 H1 ∧ th_RC G Γ H1 ∧ (mo_f G H1 a0 22 = 2400 + j + 1) ∧ (f_X12_goesAlong (dv G Γ H0) (a0 : Int) p1.toInt p2.toInt = (dv G Γ H1, 0))) G) ([.ref a0, .int p1, .int p2] : List Value).toArray s 0 0 (fun q => G.1.2.2 ≤ q)) (F0 m 76 ls []) := by
      intro n76
      induction n76 with
      | zero => intro H76 locs ls j76_4 hB hR hl hF g76_0 g76_1 g76_2 g76_3 g76_4 g76_5 hm76; exact absurd hm76 (by have := ti_hi j76_4; omega)
      | succ n76 ih76 =>
        intro H76 locs ls j76_4 hB hR hl hF g76_0 g76_1 g76_2 g76_3 g76_4 g76_5 hm76
        have lj76_4 := ti_lo j76_4; have uj76_4 := ti_hi j76_4
        have fv16_48 : mo_f G H76 a0 48 = mo_f G H0 a0 48 := mo_f_F hB.2.2 h0 (by decide) (by decide)
        have vw_H76_2 : mo_v G H76 a0 2 = mo_v G H0 a0 2 := mo_v_F (r := 48) hB.1 hB.2.2 h0 rfl ro_48 (by decide) (by decide)
        have hm76 : (2147483648 : Int) - j76_4.toInt ≤ (n76 : Int) + 1 := by omega
        replace hF := hF.trans (dv_lp_eq)
        replace hF := hF.trans (congrArg (dv_k f_X12_goesAlong_76b) (f_X12_goesAlong_76c.eq_1 (dv G Γ H76) (s72_0.toInt) ((a0 : Int)) (p2.toInt) (j76_4.toInt)))
        refine lv_iload hx hb gX12_goesAlong_5.2.1 (lv_at hl 3 rfl) ?_
        refine lv_iload_n hx hb gX12_goesAlong_5.2.2.1 rfl (lv_at hl 0 rfl) ?_
        refine tr_icmp_ge (tgt := 143) hx hb gX12_goesAlong_5.2.2.2.1 (by decide) (Eq.refl _) (Eq.refl _) (fun c79 => ?_) (fun c79 => ?_)
        · replace hF := hF.trans (congrArg (dv_k f_X12_goesAlong_76b) (if_pos c79))
          refine lv_aload_n hx hb gX12_goesAlong_9.2.2.2.1 rfl (lv_at hl 1 rfl) ?_
          have gm : mo_f G H76 a0 22 = B + m_ := by rw [g76_2, show j76_4.toInt = s72_0.toInt by omega, oG]
          refine lv_iconst (v := 1) hx hb gX12_goesAlong_9.2.2.2.2.1 (by decide) ?_
          refine th_put hC cf_X12 hB h0 (Or.inl h0) ro_46 rfl (j := 49) rfl th_sIa (by decide) rfl rfl rfl kf_X12_495 gX12_goesAlong_9.2.2.2.2.2.1 (fun H145 locs hB hf hst145 => ?_)
          have hR := th_RC_F hB.1 hR hf (th_T_s h0 ro_46 hst145) (by decide)
          have fv_H145_22 : mo_f G H145 a0 22 = mo_f G H76 a0 22 := mo_f_F hf h0 (by decide) (by decide)
          have fv_H145_23 : mo_f G H145 a0 23 = mo_f G H76 a0 23 := mo_f_F hf h0 (by decide) (by decide)
          have fv_H145_25 : mo_f G H145 a0 25 = mo_f G H76 a0 25 := mo_f_F hf h0 (by decide) (by decide)
          have fv_H145_48 : mo_f G H145 a0 48 = mo_f G H76 a0 48 := mo_f_F hf h0 (by decide) (by decide)
          have fv_H145_50 : mo_f G H145 a0 50 = mo_f G H76 a0 50 := mo_f_F hf h0 (by decide) (by decide)
          have vv_H145_2 : mo_v G H145 a0 2 = mo_v G H76 a0 2 := mo_v_F (r := 48) hB.1 hf h0 rfl ro_48 (by decide) (by decide)
          replace hF := hF.trans (congrArg (dv_k f_X12_goesAlong_76b) (dv_bn (dv_putI hB.1 h0 ro_46 (j := 49) rfl (th_apart hC cf_X12) hst145 tk_1 (by decide))))
          refine lv_aload_n hx hb gX12_goesAlong_9.2.2.2.2.2.2.1 rfl (lv_at hl 1 rfl) ?_
          refine lv_bipush (v := 27) hx hb gX12_goesAlong_9.2.2.2.2.2.2.2 (by decide) ?_
          have ce145 : mo_ce G H145 a0 B m_ = T m_ := by rw [((mo_ce_T (mo_v_F (r := 48) hB.1 hB.2.2 h0 rfl ro_48 (by decide) (by decide)) (show mo_f G H145 a0 23 = B + n0 by omega)).trans eT.symm)]
          have tk27 := tk_27
          refine th_call (th_runV (As := [.int 27]) (rest := []) hC mf_X12_passes0 km_X12_305 im_X12_passes0 se_X12_passes0 (c_X12_passes0 l G Γ H145 hB.1 hR hU a0 h0 27 (by decide) B m_ ⟨by omega, by omega, by omega, by omega⟩) rfl rfl ⟨Nat.le_of_ble_eq_true rfl, Nat.le_of_ble_eq_true rfl⟩ hB.1 h0 ro_46 rfl rfl hl.1 rfl (Nat.le_of_ble_eq_true rfl) gX12_goesAlong_10.1 ⟨Nat.le_refl _, Nat.le_refl _⟩) hB.2.1 (fun v151 H151 locs hp hz hS => ?_)
          obtain ⟨x17, rfl, lx17, ux17, hI1, hf, hR, z151_0, z151_1, z151_2⟩ := hp
          have hB := th_B_c hB hI1 hS hf (by decide)
          have fv_H151_23 : mo_f G H151 a0 23 = mo_f G H145 a0 23 := mo_f_F hf h0 (by decide) (by decide)
          have fv_H151_25 : mo_f G H151 a0 25 = mo_f G H145 a0 25 := mo_f_F hf h0 (by decide) (by decide)
          have fv_H151_48 : mo_f G H151 a0 48 = mo_f G H145 a0 48 := mo_f_F hf h0 (by decide) (by decide)
          have fv_H151_50 : mo_f G H151 a0 50 = mo_f G H145 a0 50 := mo_f_F hf h0 (by decide) (by decide)
          have vv_H151_2 : mo_v G H151 a0 2 = mo_v G H145 a0 2 := mo_v_F (r := 48) hB.1 hf h0 rfl ro_48 (by decide) (by decide)
          have zf151 := z151_2
          rw [tk_27] at zf151
          replace hF := hF.trans (congrArg (dv_k f_X12_goesAlong_76b) (dv_bn2 (zf151)))
          refine W.eq (g2 := F0 m 154 ls [.int x17]) rfl ?_
          have jn184 : ∀ (H184 : Heap) (locs : List Loc) (ls : Array Slot) , th_B G Γ Γ [(46, 22), (46, 24), (46, 23), (46, 25), (46, 49), (46, 50), (46, 51), (46, 52), (69, 0)] H0 H184 locs → th_RC G Γ H184 → lv_has ls 5 [(0, .ref a0), (2, .int p2)] → F = dv_k f_X12_goesAlong_76b (f_X12_goesAlong_184 (dv G Γ H184) ((a0 : Int)) (p2.toInt)) → mo_f G H184 a0 22 = B + m2_ → mo_f G H184 a0 23 = B + n0 → mo_f G H184 a0 25 = 1 → W p l e ({ frames := 50, cells := 0, slots := 0, locals := 1594 } : Room) s m ([.ref a0, .int p1, .int p2] : List Value).toArray below meth c H184 locs 0 0 (MQ below (th_Q (fun (v : Option Value) (H1 : Heap) => v = none ∧ th_I G Γ H1 ∧ th_F G Γ [(46, 22), (46, 24), (46, 23), (46, 25), (46, 49), (46, 50), (46, 51), (46, 52), (69, 0)] H0 H1 ∧ th_RC G Γ H1 ∧ (mo_f G H1 a0 22 = 2400 + j + 1) ∧ (f_X12_goesAlong (dv G Γ H0) (a0 : Int) p1.toInt p2.toInt = (dv G Γ H1, 0))) G) ([.ref a0, .int p1, .int p2] : List Value).toArray s 0 0 (fun q => G.1.2.2 ≤ q)) (F0 m 184 ls []) := by
            intro H184 locs ls hB hR hl hF g184_0 g184_1 g184_2
            have fv18_48 : mo_f G H184 a0 48 = mo_f G H0 a0 48 := mo_f_F hB.2.2 h0 (by decide) (by decide)
            have vw_H184_2 : mo_v G H184 a0 2 = mo_v G H0 a0 2 := mo_v_F (r := 48) hB.1 hB.2.2 h0 rfl ro_48 (by decide) (by decide)
            replace hF := hF.trans (congrArg (dv_k f_X12_goesAlong_76b) (f_X12_goesAlong_184.eq_1 (dv G Γ H184) ((a0 : Int)) (p2.toInt)))
            refine lv_aload_n hx hb gX12_goesAlong_12.2.1 rfl (lv_at hl 0 rfl) ?_
            refine lv_iconst (v := 0) hx hb gX12_goesAlong_12.2.2.1 (by decide) ?_
            refine th_put hC cf_X12 hB h0 (Or.inl h0) ro_46 rfl (j := 24) rfl (th_sI (by decide) (by decide)) (by decide) rfl narrow_b0 rfl kf_X12_291 gX12_goesAlong_12.2.2.2.1 (fun H186 locs hB hf hst186 => ?_)
            have hR := th_RC_F hB.1 hR hf (th_T_s h0 ro_46 hst186) (by decide)
            have fv_H186_22 : mo_f G H186 a0 22 = mo_f G H184 a0 22 := mo_f_F hf h0 (by decide) (by decide)
            have fv_H186_23 : mo_f G H186 a0 23 = mo_f G H184 a0 23 := mo_f_F hf h0 (by decide) (by decide)
            have fv_H186_25 : mo_f G H186 a0 25 = mo_f G H184 a0 25 := mo_f_F hf h0 (by decide) (by decide)
            have fv_H186_48 : mo_f G H186 a0 48 = mo_f G H184 a0 48 := mo_f_F hf h0 (by decide) (by decide)
            have fv_H186_50 : mo_f G H186 a0 50 = mo_f G H184 a0 50 := mo_f_F hf h0 (by decide) (by decide)
            have vv_H186_2 : mo_v G H186 a0 2 = mo_v G H184 a0 2 := mo_v_F (r := 48) hB.1 hf h0 rfl ro_48 (by decide) (by decide)
            replace hF := hF.trans (congrArg (dv_k f_X12_goesAlong_76b) (dv_bn (dv_putI hB.1 h0 ro_46 (j := 24) rfl (th_apart hC cf_X12) hst186 tk_0 (by decide))))
            have mm19 := hst186.2.1
            refine lv_aload_n hx hb gX12_goesAlong_12.2.2.2.2.1 rfl (lv_at hl 0 rfl) ?_
            refine lv_aload_n hx hb gX12_goesAlong_12.2.2.2.2.2.1 rfl (lv_at hl 0 rfl) ?_
            refine lv_iconst (v := 4) hx hb gX12_goesAlong_12.2.2.2.2.2.2.1 (by decide) ?_
            have ce186 : mo_ce G H186 a0 B m2_ = T m2_ := by rw [((mo_ce_T (mo_v_F (r := 48) hB.1 hB.2.2 h0 rfl ro_48 (by decide) (by decide)) (show mo_f G H186 a0 23 = B + n0 by omega)).trans eT.symm)]
            have tk4 := tk_4
            refine th_call (th_runV (As := [.int 4]) (rest := [.ref a0]) hC mf_X12_passes0 km_X12_305 im_X12_passes0 se_X12_passes0 (c_X12_passes0 l G Γ H186 hB.1 hR hU a0 h0 4 (by decide) B m2_ ⟨by omega, by omega, by omega, by omega⟩) rfl rfl ⟨Nat.le_of_ble_eq_true rfl, Nat.le_of_ble_eq_true rfl⟩ hB.1 h0 ro_46 rfl rfl hl.1 rfl (Nat.le_of_ble_eq_true rfl) gX12_goesAlong_12.2.2.2.2.2.2.2 ⟨Nat.le_refl _, Nat.le_refl _⟩) hB.2.1 (fun v192 H192 locs hp hz hS => ?_)
            obtain ⟨x20, rfl, lx20, ux20, hI1, hf, hR, z192_0, z192_1, z192_2⟩ := hp
            have hB := th_B_c hB hI1 hS hf (by decide)
            have mm21 := (th_F_o hf h0 ro_46 (j := 24) (by decide) (by decide)).trans mm19
            have fv_H192_23 : mo_f G H192 a0 23 = mo_f G H186 a0 23 := mo_f_F hf h0 (by decide) (by decide)
            have fv_H192_25 : mo_f G H192 a0 25 = mo_f G H186 a0 25 := mo_f_F hf h0 (by decide) (by decide)
            have fv_H192_48 : mo_f G H192 a0 48 = mo_f G H186 a0 48 := mo_f_F hf h0 (by decide) (by decide)
            have fv_H192_50 : mo_f G H192 a0 50 = mo_f G H186 a0 50 := mo_f_F hf h0 (by decide) (by decide)
            have vv_H192_2 : mo_v G H192 a0 2 = mo_v G H186 a0 2 := mo_v_F (r := 48) hB.1 hf h0 rfl ro_48 (by decide) (by decide)
            have zf192 := z192_2
            rw [tk_4] at zf192
            replace hF := hF.trans (congrArg (dv_k f_X12_goesAlong_76b) (dv_bn2 (zf192)))
            refine W.eq (g2 := F0 m 195 ls [.int x20, .ref a0]) rfl ?_
            have jn211 : ∀ (HJ211 : Heap) (locs : List Loc) (ls : Array Slot) (s211_1 : Int32), th_B G Γ Γ [(46, 22), (46, 24), (46, 23), (46, 25), (46, 49), (46, 50), (46, 51), (46, 52), (69, 0)] H0 HJ211 locs → th_RC G Γ HJ211 → lv_has ls 5 [(0, .ref a0)] → F = dv_k f_X12_goesAlong_76b (f_X12_goesAlong_211 (dv G Γ HJ211) ((a0 : Int)) (s211_1.toInt)) → 0 ≤ s211_1.toInt → s211_1.toInt ≤ 1 → mo_f G HJ211 a0 22 = B + j → W p l e ({ frames := 50, cells := 0, slots := 0, locals := 1594 } : Room) s m ([.ref a0, .int p1, .int p2] : List Value).toArray below meth c HJ211 locs 0 0 (MQ below (th_Q (fun (v : Option Value) (H1 : Heap) => v = none ∧ th_I G Γ H1 ∧ th_F G Γ [(46, 22), (46, 24), (46, 23), (46, 25), (46, 49), (46, 50), (46, 51), (46, 52), (69, 0)] H0 H1 ∧ th_RC G Γ H1 ∧ (mo_f G H1 a0 22 = 2400 + j + 1) ∧ (f_X12_goesAlong (dv G Γ H0) (a0 : Int) p1.toInt p2.toInt = (dv G Γ H1, 0))) G) ([.ref a0, .int p1, .int p2] : List Value).toArray s 0 0 (fun q => G.1.2.2 ≤ q)) (F0 m 211 ls [.int s211_1, .ref a0]) := by
              intro HJ211 locs ls s211_1 hB hR hl hF g211_0 g211_1 g211_2
              have ls211_1 := ti_lo s211_1; have us211_1 := ti_hi s211_1
              have fv22_48 : mo_f G HJ211 a0 48 = mo_f G H0 a0 48 := mo_f_F hB.2.2 h0 (by decide) (by decide)
              have vw_HJ211_2 : mo_v G HJ211 a0 2 = mo_v G H0 a0 2 := mo_v_F (r := 48) hB.1 hB.2.2 h0 rfl ro_48 (by decide) (by decide)
              replace hF := hF.trans (congrArg (dv_k f_X12_goesAlong_76b) (f_X12_goesAlong_211.eq_1 (dv G Γ HJ211) ((a0 : Int)) (s211_1.toInt)))
              refine th_put hC cf_X12 hB h0 (Or.inl h0) ro_46 rfl (j := 52) rfl (th_sI (by omega) (by omega)) (by decide) rfl (th_nb (by omega) (by omega)) (th_fb (by omega) (by omega)) kf_X12_498 gX12_goesAlong_14.1 (fun H211 locs hB hf hst211 => ?_)
              have hR := th_RC_F hB.1 hR hf (th_T_s h0 ro_46 hst211) (by decide)
              have fv_H211_22 : mo_f G H211 a0 22 = mo_f G HJ211 a0 22 := mo_f_F hf h0 (by decide) (by decide)
              have fv_H211_23 : mo_f G H211 a0 23 = mo_f G HJ211 a0 23 := mo_f_F hf h0 (by decide) (by decide)
              have fv_H211_25 : mo_f G H211 a0 25 = mo_f G HJ211 a0 25 := mo_f_F hf h0 (by decide) (by decide)
              have fv_H211_48 : mo_f G H211 a0 48 = mo_f G HJ211 a0 48 := mo_f_F hf h0 (by decide) (by decide)
              have fv_H211_50 : mo_f G H211 a0 50 = mo_f G HJ211 a0 50 := mo_f_F hf h0 (by decide) (by decide)
              have vv_H211_2 : mo_v G H211 a0 2 = mo_v G HJ211 a0 2 := mo_v_F (r := 48) hB.1 hf h0 rfl ro_48 (by decide) (by decide)
              replace hF := hF.trans (congrArg (dv_k f_X12_goesAlong_76b) (dv_bn (dv_putI hB.1 h0 ro_46 (j := 52) rfl (th_apart hC cf_X12) hst211 (Eq.refl _) (by decide))))
              have mm23 := hst211.2.1
              refine lv_aload_n hx hb gX12_goesAlong_14.2.1 rfl (lv_at hl 0 rfl) ?_
              refine lv_aload_n hx hb gX12_goesAlong_14.2.2.1 rfl (lv_at hl 0 rfl) ?_
              refine th_getK hC cf_X12 hB.1 h0 ro_46 rfl (j := 52) (by decide) mm23 kf_X12_498 gX12_goesAlong_14.2.2.2.1 ?_
              replace hF := hF.trans (congrArg (dv_k f_X12_goesAlong_76b) (dv_bn (dv_getI h0 ro_46 (j := 52) rfl mm23 (by decide))))
              have jn234 : ∀ (locs : List Loc) (ls : Array Slot) (s234_1 : Int32), th_B G Γ Γ [(46, 22), (46, 24), (46, 23), (46, 25), (46, 49), (46, 50), (46, 51), (46, 52), (69, 0)] H0 H211 locs → lv_has ls 5 [(0, .ref a0)] → F = dv_k f_X12_goesAlong_76b (f_X12_goesAlong_234 (dv G Γ H211) ((a0 : Int)) (s234_1.toInt)) → 0 ≤ s234_1.toInt → s234_1.toInt ≤ 1 → W p l e ({ frames := 50, cells := 0, slots := 0, locals := 1594 } : Room) s m ([.ref a0, .int p1, .int p2] : List Value).toArray below meth c H211 locs 0 0 (MQ below (th_Q (fun (v : Option Value) (H1 : Heap) => v = none ∧ th_I G Γ H1 ∧ th_F G Γ [(46, 22), (46, 24), (46, 23), (46, 25), (46, 49), (46, 50), (46, 51), (46, 52), (69, 0)] H0 H1 ∧ th_RC G Γ H1 ∧ (mo_f G H1 a0 22 = 2400 + j + 1) ∧ (f_X12_goesAlong (dv G Γ H0) (a0 : Int) p1.toInt p2.toInt = (dv G Γ H1, 0))) G) ([.ref a0, .int p1, .int p2] : List Value).toArray s 0 0 (fun q => G.1.2.2 ≤ q)) (F0 m 234 ls [.int s234_1, .ref a0]) := by
                intro locs ls s234_1 hB hl hF g234_0 g234_1
                have ls234_1 := ti_lo s234_1; have us234_1 := ti_hi s234_1
                replace hF := hF.trans (congrArg (dv_k f_X12_goesAlong_76b) (f_X12_goesAlong_234.eq_1 (dv G Γ H211) ((a0 : Int)) (s234_1.toInt)))
                refine th_put hC cf_X12 hB h0 (Or.inl h0) ro_46 rfl (j := 52) rfl (th_sI (by omega) (by omega)) (by decide) rfl (th_nb (by omega) (by omega)) (th_fb (by omega) (by omega)) kf_X12_498 gX12_goesAlong_15.2.2.2.1 (fun H234 locs hB hf hst234 => ?_)
                have hR := th_RC_F hB.1 hR hf (th_T_s h0 ro_46 hst234) (by decide)
                have fv_H234_22 : mo_f G H234 a0 22 = mo_f G H211 a0 22 := mo_f_F hf h0 (by decide) (by decide)
                have fv_H234_23 : mo_f G H234 a0 23 = mo_f G H211 a0 23 := mo_f_F hf h0 (by decide) (by decide)
                have fv_H234_25 : mo_f G H234 a0 25 = mo_f G H211 a0 25 := mo_f_F hf h0 (by decide) (by decide)
                have fv_H234_48 : mo_f G H234 a0 48 = mo_f G H211 a0 48 := mo_f_F hf h0 (by decide) (by decide)
                have fv_H234_50 : mo_f G H234 a0 50 = mo_f G H211 a0 50 := mo_f_F hf h0 (by decide) (by decide)
                have vv_H234_2 : mo_v G H234 a0 2 = mo_v G H211 a0 2 := mo_v_F (r := 48) hB.1 hf h0 rfl ro_48 (by decide) (by decide)
                replace hF := hF.trans (congrArg (dv_k f_X12_goesAlong_76b) (dv_bn (dv_putI hB.1 h0 ro_46 (j := 52) rfl (th_apart hC cf_X12) hst234 (Eq.refl _) (by decide))))
                refine lv_aload_n hx hb gX12_goesAlong_15.2.2.2.2.1 rfl (lv_at hl 0 rfl) ?_
                refine lv_dup hx hb gX12_goesAlong_15.2.2.2.2.2.1 rfl ?_
                refine th_getI (j := 22) hC cf_X12 hB.1 h0 ro_46 rfl rfl kf_X12_281 gX12_goesAlong_15.2.2.2.2.2.2.1 (fun x24 mx24 lx24 ux24 => ?_)
                replace hF := hF.trans (congrArg (dv_k f_X12_goesAlong_76b) (dv_bn (dv_getI h0 ro_46 (j := 22) rfl mx24 (by decide))))
                have fg25 : mo_f G H234 a0 22 = x24.toInt := mo_fat mx24
                refine lv_iconst (v := 1) hx hb gX12_goesAlong_15.2.2.2.2.2.2.2 (by decide) ?_
                refine tr_iadd hx hb gX12_goesAlong_16.1 (Eq.refl _) tk_1 (by omega) (by omega) (fun x26 ex26 => ?_)
                replace hF := hF.trans (congrArg (dv_k f_X12_goesAlong_76b) (dv_bn (ex26.symm)))
                refine th_put hC cf_X12 hB h0 (Or.inl h0) ro_46 rfl (j := 22) rfl th_sIa (by decide) rfl rfl rfl kf_X12_281 gX12_goesAlong_16.2.1 (fun H244 locs hB hf hst244 => ?_)
                have hR := th_RC_F hB.1 hR hf (th_T_s h0 ro_46 hst244) (by decide)
                have fv_H244_23 : mo_f G H244 a0 23 = mo_f G H234 a0 23 := mo_f_F hf h0 (by decide) (by decide)
                have fv_H244_25 : mo_f G H244 a0 25 = mo_f G H234 a0 25 := mo_f_F hf h0 (by decide) (by decide)
                have fv_H244_48 : mo_f G H244 a0 48 = mo_f G H234 a0 48 := mo_f_F hf h0 (by decide) (by decide)
                have fv_H244_50 : mo_f G H244 a0 50 = mo_f G H234 a0 50 := mo_f_F hf h0 (by decide) (by decide)
                have vv_H244_2 : mo_v G H244 a0 2 = mo_v G H234 a0 2 := mo_v_F (r := 48) hB.1 hf h0 rfl ro_48 (by decide) (by decide)
                replace hF := hF.trans (congrArg (dv_k f_X12_goesAlong_76b) (dv_bn (dv_putI hB.1 h0 ro_46 (j := 22) rfl (th_apart hC cf_X12) hst244 (Eq.refl _) (by decide))))
                have fp244 : mo_f G H244 a0 22 = x26.toInt := mo_f_St hst244
                replace hF := hF.trans (dv_kr)
                exact th_vret hC hH hr hlocks hB.2.1 ⟨rfl, hB.1, hB.2.2, hR, by omega, (hF0.symm.trans hF)⟩ gX12_goesAlong_16.2.2
              have jn233 : ∀ (locs : List Loc) (ls : Array Slot) , th_B G Γ Γ [(46, 22), (46, 24), (46, 23), (46, 25), (46, 49), (46, 50), (46, 51), (46, 52), (69, 0)] H0 H211 locs → lv_has ls 5 [(0, .ref a0)] → F = dv_k f_X12_goesAlong_76b (f_X12_goesAlong_233 (dv G Γ H211) ((a0 : Int))) → W p l e ({ frames := 50, cells := 0, slots := 0, locals := 1594 } : Room) s m ([.ref a0, .int p1, .int p2] : List Value).toArray below meth c H211 locs 0 0 (MQ below (th_Q (fun (v : Option Value) (H1 : Heap) => v = none ∧ th_I G Γ H1 ∧ th_F G Γ [(46, 22), (46, 24), (46, 23), (46, 25), (46, 49), (46, 50), (46, 51), (46, 52), (69, 0)] H0 H1 ∧ th_RC G Γ H1 ∧ (mo_f G H1 a0 22 = 2400 + j + 1) ∧ (f_X12_goesAlong (dv G Γ H0) (a0 : Int) p1.toInt p2.toInt = (dv G Γ H1, 0))) G) ([.ref a0, .int p1, .int p2] : List Value).toArray s 0 0 (fun q => G.1.2.2 ≤ q)) (F0 m 233 ls [.ref a0]) := by
                intro locs ls hB hl hF
                replace hF := hF.trans (congrArg (dv_k f_X12_goesAlong_76b) (f_X12_goesAlong_233.eq_1 (dv G Γ H211) ((a0 : Int))))
                refine lv_iconst (v := 0) hx hb gX12_goesAlong_15.2.2.1 (by decide) ?_
                exact jn234 locs ls 0 hB (lv_sub hl [0] rfl) (by rw [tk_0]; exact hF) (by decide) (by decide)
              refine tr_if_eq (tgt := 233) hx hb gX12_goesAlong_14.2.2.2.2.1 (by decide) (Eq.refl _) (fun c219 => ?_) (fun c219 => ?_)
              · replace hF := hF.trans (congrArg (dv_k f_X12_goesAlong_76b) (if_pos c219))
                exact jn233 locs ls hB (lv_sub hl [0] rfl) hF
              · replace hF := hF.trans (congrArg (dv_k f_X12_goesAlong_76b) (if_neg c219))
                refine lv_aload_n hx hb gX12_goesAlong_14.2.2.2.2.2.1 rfl (lv_at hl 0 rfl) ?_
                refine th_getI (j := 24) hC cf_X12 hB.1 h0 ro_46 rfl rfl kf_X12_291 gX12_goesAlong_14.2.2.2.2.2.2.1 (fun x27 mx27 lx27 ux27 => ?_)
                replace hF := hF.trans (congrArg (dv_k f_X12_goesAlong_76b) (dv_bn (dv_getI h0 ro_46 (j := 24) rfl mx27 (by decide))))
                refine tr_if_ne (tgt := 233) hx hb gX12_goesAlong_14.2.2.2.2.2.2.2 (by decide) (Eq.refl _) (fun c226 => ?_) (fun c226 => ?_)
                · replace hF := hF.trans (congrArg (dv_k f_X12_goesAlong_76b) (if_pos c226))
                  exact jn233 locs ls hB (lv_sub hl [0] rfl) hF
                · replace hF := hF.trans (congrArg (dv_k f_X12_goesAlong_76b) (if_neg (not_not_intro c226)))
                  refine lv_iconst (v := 1) hx hb gX12_goesAlong_15.1 (by decide) ?_
                  refine lv_goto (tgt := 234) hx hb gX12_goesAlong_15.2.1 (by decide) ?_
                  exact jn234 locs ls 1 hB (lv_sub hl [0] rfl) (by rw [tk_1]; exact hF) (by decide) (by decide)
            have jn206 : ∀ (H206 : Heap) (locs : List Loc) (ls : Array Slot) , th_B G Γ Γ [(46, 22), (46, 24), (46, 23), (46, 25), (46, 49), (46, 50), (46, 51), (46, 52), (69, 0)] H0 H206 locs → th_RC G Γ H206 → lv_has ls 5 [(0, .ref a0)] → F = dv_k f_X12_goesAlong_76b (f_X12_goesAlong_206 (dv G Γ H206) ((a0 : Int))) → mo_f G H206 a0 22 = B + j → W p l e ({ frames := 50, cells := 0, slots := 0, locals := 1594 } : Room) s m ([.ref a0, .int p1, .int p2] : List Value).toArray below meth c H206 locs 0 0 (MQ below (th_Q (fun (v : Option Value) (H1 : Heap) => v = none ∧ th_I G Γ H1 ∧ th_F G Γ [(46, 22), (46, 24), (46, 23), (46, 25), (46, 49), (46, 50), (46, 51), (46, 52), (69, 0)] H0 H1 ∧ th_RC G Γ H1 ∧ (mo_f G H1 a0 22 = 2400 + j + 1) ∧ (f_X12_goesAlong (dv G Γ H0) (a0 : Int) p1.toInt p2.toInt = (dv G Γ H1, 0))) G) ([.ref a0, .int p1, .int p2] : List Value).toArray s 0 0 (fun q => G.1.2.2 ≤ q)) (F0 m 206 ls [.ref a0]) := by
              intro H206 locs ls hB hR hl hF g206_0
              have fv28_48 : mo_f G H206 a0 48 = mo_f G H0 a0 48 := mo_f_F hB.2.2 h0 (by decide) (by decide)
              have vw_H206_2 : mo_v G H206 a0 2 = mo_v G H0 a0 2 := mo_v_F (r := 48) hB.1 hB.2.2 h0 rfl ro_48 (by decide) (by decide)
              replace hF := hF.trans (congrArg (dv_k f_X12_goesAlong_76b) (f_X12_goesAlong_206.eq_1 (dv G Γ H206) ((a0 : Int))))
              refine lv_iconst (v := 1) hx hb gX12_goesAlong_13.2.2.2.2.2.1 (by decide) ?_
              refine lv_goto (tgt := 211) hx hb gX12_goesAlong_13.2.2.2.2.2.2.1 (by decide) ?_
              exact jn211 H206 locs ls 1 hB hR (lv_sub hl [0] rfl) (by rw [tk_1]; exact hF) (by decide) (by decide) (by omega)
            refine tr_if_eq (tgt := 206) hx hb gX12_goesAlong_13.1 (by decide) (Eq.refl _) (fun c195 => ?_) (fun c195 => ?_)
            · replace hF := hF.trans (congrArg (dv_k f_X12_goesAlong_76b) (if_pos c195))
              exact jn206 H192 locs ls hB hR (lv_sub hl [0] rfl) hF (by have q9 := z192_1; rcases oI with ⟨qa, -⟩ | ⟨-, qa⟩; exact absurd qa (by omega); omega)
            · replace hF := hF.trans (congrArg (dv_k f_X12_goesAlong_76b) (if_neg c195))
              refine lv_aload_n hx hb gX12_goesAlong_13.2.1 rfl (lv_at hl 0 rfl) ?_
              refine lv_iload_n hx hb gX12_goesAlong_13.2.2.1 rfl (lv_at hl 1 rfl) ?_
              have ts : mo_test 1 T 8 (m2_ + 1) j := by rcases oI with ⟨-, q9⟩ | ⟨q9, -⟩; exact q9; exact absurd (show T m2_ = 4 by have q8 := z192_0; omega) q9
              refine th_call (th_runV (As := [.int p2]) (rest := [.ref a0]) hC mf_X12_testOf km_X12_335 im_X12_testOf se_X12_testOf (c_X12_testOf_d 8 l G Γ H192 hB.1 hR hU a0 h0 p2 (by omega) (by omega) B (m2_ + 1) j ⟨by omega, by omega, by omega, by omega⟩ (by rw [((mo_ce_T (mo_v_F (r := 48) hB.1 hB.2.2 h0 rfl ro_48 (by decide) (by decide)) (show mo_f G H192 a0 23 = B + n0 by omega)).trans eT.symm), show mo_f G H192 a0 25 = 1 by omega]; exact ts)) rfl rfl ⟨Nat.le_of_ble_eq_true rfl, Nat.le_of_ble_eq_true rfl⟩ hB.1 h0 ro_46 rfl rfl hl.1 rfl (Nat.le_of_ble_eq_true rfl) gX12_goesAlong_13.2.2.2.1 ⟨Nat.le_refl _, Nat.le_refl _⟩) hB.2.1 (fun v200 H200 locs hp hz hS => ?_)
              obtain ⟨x29, rfl, lx29, ux29, hI1, hf, hR, z200_0, z200_1⟩ := hp
              have hB := th_B_c hB hI1 hS hf (by decide)
              have fv_H200_23 : mo_f G H200 a0 23 = mo_f G H192 a0 23 := mo_f_F hf h0 (by decide) (by decide)
              have fv_H200_25 : mo_f G H200 a0 25 = mo_f G H192 a0 25 := mo_f_F hf h0 (by decide) (by decide)
              have fv_H200_48 : mo_f G H200 a0 48 = mo_f G H192 a0 48 := mo_f_F hf h0 (by decide) (by decide)
              have fv_H200_50 : mo_f G H200 a0 50 = mo_f G H192 a0 50 := mo_f_F hf h0 (by decide) (by decide)
              have vv_H200_2 : mo_v G H200 a0 2 = mo_v G H192 a0 2 := mo_v_F (r := 48) hB.1 hf h0 rfl ro_48 (by decide) (by decide)
              replace hF := hF.trans (congrArg (dv_k f_X12_goesAlong_76b) (dv_bn2 (z200_1)))
              refine W.eq (g2 := F0 m 203 ls [.int x29, .ref a0]) rfl ?_
              refine tr_if_eq (tgt := 210) hx hb gX12_goesAlong_13.2.2.2.2.1 (by decide) (Eq.refl _) (fun c203 => ?_) (fun c203 => ?_)
              · replace hF := hF.trans (congrArg (dv_k f_X12_goesAlong_76b) (if_pos c203))
                refine lv_iconst (v := 0) hx hb gX12_goesAlong_13.2.2.2.2.2.2.2 (by decide) ?_
                exact jn211 H200 locs ls 0 hB hR (lv_sub hl [0] rfl) (by rw [tk_0]; exact hF) (by decide) (by decide) (by omega)
              · replace hF := hF.trans (congrArg (dv_k f_X12_goesAlong_76b) (if_neg c203))
                exact jn206 H200 locs ls hB hR (lv_sub hl [0] rfl) hF (by omega)
          refine tr_if_eq (tgt := 184) hx hb gX12_goesAlong_10.2.1 (by decide) (Eq.refl _) (fun c154 => ?_) (fun c154 => ?_)
          · replace hF := hF.trans (congrArg (dv_k f_X12_goesAlong_76b) (if_pos c154))
            exact jn184 H151 locs ls hB hR (lv_sub hl [1, 2] rfl) hF (by have q9 := z151_1; rcases oT with ⟨qa, -⟩ | ⟨-, qa⟩; exact absurd qa (by omega); omega) (by omega) (by omega)
          · replace hF := hF.trans (congrArg (dv_k f_X12_goesAlong_76b) (if_neg c154))
            refine lv_aload_n hx hb gX12_goesAlong_10.2.2.1 rfl (lv_at hl 1 rfl) ?_
            have t2 : T (m_ + 1) = 50 ∧ m2_ = m_ + 2 := by rcases oT with ⟨-, qa, qb⟩ | ⟨qa, -⟩; exact ⟨qa, qb⟩; exact absurd (show T m_ = 27 by have q9 := z151_0; omega) qa
            have nzm := mo_tf_nz (k := mo_v G H0 a0 2) (b := 80 + B) (n := n0) (i := (m_ + 1)) (by rw [← eT]; exact by rw [t2.1]; decide)
            refine lv_aload_n hx hb gX12_goesAlong_10.2.2.2.1 rfl (lv_at hl 1 rfl) ?_
            refine th_getO (j := 2) (r2 := 48) hC cf_X12 hB.1 h0 ro_46 rfl rfl kf_X12_28 gX12_goesAlong_10.2.2.2.2.1 (fun b30 mb30 hb30 => ?_)
            refine lv_sipush (v := 2880) hx hb gX12_goesAlong_10.2.2.2.2.2.1 (by decide) ?_
            refine lv_aload_n hx hb gX12_goesAlong_10.2.2.2.2.2.2.1 rfl (lv_at hl 1 rfl) ?_
            refine th_getI (j := 22) hC cf_X12 hB.1 h0 ro_46 rfl rfl kf_X12_281 gX12_goesAlong_10.2.2.2.2.2.2.2 (fun x31 mx31 lx31 ux31 => ?_)
            replace hF := hF.trans (congrArg (dv_k f_X12_goesAlong_76b) (dv_bn (dv_getI h0 ro_46 (j := 22) rfl mx31 (by decide))))
            have fg32 : mo_f G H151 a0 22 = x31.toInt := mo_fat mx31
            refine tr_iadd hx hb gX12_goesAlong_11.1 tk_2880 (Eq.refl _) (by omega) (by omega) (fun x33 ex33 => ?_)
            replace hF := hF.trans (congrArg (dv_k f_X12_goesAlong_76b) (dv_bn (ex33.symm)))
            refine th_ialdF hC hB.1 hb30 ro_48 rfl (Eq.refl _) (by omega) (by omega) (ek_c (by omega) (by omega)) gX12_goesAlong_11.2.1 (fun x34 mx34 lx34 ux34 => ?_)
            replace hF := hF.trans (congrArg (dv_k f_X12_goesAlong_76b) (dv_bn (dv_aldI hB.1 hU hb30 ow_48 (z := x33.toInt) mx34 (by omega))))
            have vgx34 : mo_v G H0 a0 2 (2880 + x31.toInt) = x34.toInt := by rw [← (mo_v_F (r := 48) hB.1 hB.2.2 h0 rfl ro_48 (by decide) (by decide) : mo_v G H151 a0 2 = _)]; rw [show ((2880 + x31.toInt) : Int) = x33.toInt by omega]; exact mo_vat mb30 mx34 (by omega)
            refine th_put hC cf_X12 hB h0 (Or.inl h0) ro_46 rfl (j := 49) rfl th_sIa (by decide) rfl rfl rfl kf_X12_495 gX12_goesAlong_11.2.2.1 (fun H171 locs hB hf hst171 => ?_)
            have mm35 := (th_F_o hf h0 ro_46 (j := 22) (by decide) (by decide)).trans mx31
            have hR := th_RC_F hB.1 hR hf (th_T_s h0 ro_46 hst171) (by decide)
            have fv_H171_22 : mo_f G H171 a0 22 = mo_f G H151 a0 22 := mo_f_F hf h0 (by decide) (by decide)
            have fv_H171_23 : mo_f G H171 a0 23 = mo_f G H151 a0 23 := mo_f_F hf h0 (by decide) (by decide)
            have fv_H171_25 : mo_f G H171 a0 25 = mo_f G H151 a0 25 := mo_f_F hf h0 (by decide) (by decide)
            have fv_H171_48 : mo_f G H171 a0 48 = mo_f G H151 a0 48 := mo_f_F hf h0 (by decide) (by decide)
            have fv_H171_50 : mo_f G H171 a0 50 = mo_f G H151 a0 50 := mo_f_F hf h0 (by decide) (by decide)
            have vv_H171_2 : mo_v G H171 a0 2 = mo_v G H151 a0 2 := mo_v_F (r := 48) hB.1 hf h0 rfl ro_48 (by decide) (by decide)
            replace hF := hF.trans (congrArg (dv_k f_X12_goesAlong_76b) (dv_bn (dv_putI hB.1 h0 ro_46 (j := 49) rfl (th_apart hC cf_X12) hst171 (Eq.refl _) (by decide))))
            refine lv_aload_n hx hb gX12_goesAlong_11.2.2.2.1 rfl (lv_at hl 1 rfl) ?_
            refine lv_dup hx hb gX12_goesAlong_11.2.2.2.2.1 rfl ?_
            refine th_getK hC cf_X12 hB.1 h0 ro_46 rfl (j := 22) (by decide) mm35 kf_X12_281 gX12_goesAlong_11.2.2.2.2.2.1 ?_
            replace hF := hF.trans (congrArg (dv_k f_X12_goesAlong_76b) (dv_bn (dv_getI h0 ro_46 (j := 22) rfl mm35 (by decide))))
            have fg36 : mo_f G H171 a0 22 = x31.toInt := mo_fat mm35
            refine lv_iconst (v := 1) hx hb gX12_goesAlong_11.2.2.2.2.2.2.1 (by decide) ?_
            refine tr_iadd hx hb gX12_goesAlong_11.2.2.2.2.2.2.2 (Eq.refl _) tk_1 (by omega) (by omega) (fun x37 ex37 => ?_)
            replace hF := hF.trans (congrArg (dv_k f_X12_goesAlong_76b) (dv_bn (ex37.symm)))
            refine th_put hC cf_X12 hB h0 (Or.inl h0) ro_46 rfl (j := 22) rfl th_sIa (by decide) rfl rfl rfl kf_X12_281 gX12_goesAlong_12.1 (fun H181 locs hB hf hst181 => ?_)
            have hR := th_RC_F hB.1 hR hf (th_T_s h0 ro_46 hst181) (by decide)
            have fv_H181_23 : mo_f G H181 a0 23 = mo_f G H171 a0 23 := mo_f_F hf h0 (by decide) (by decide)
            have fv_H181_25 : mo_f G H181 a0 25 = mo_f G H171 a0 25 := mo_f_F hf h0 (by decide) (by decide)
            have fv_H181_48 : mo_f G H181 a0 48 = mo_f G H171 a0 48 := mo_f_F hf h0 (by decide) (by decide)
            have fv_H181_50 : mo_f G H181 a0 50 = mo_f G H171 a0 50 := mo_f_F hf h0 (by decide) (by decide)
            have vv_H181_2 : mo_v G H181 a0 2 = mo_v G H171 a0 2 := mo_v_F (r := 48) hB.1 hf h0 rfl ro_48 (by decide) (by decide)
            replace hF := hF.trans (congrArg (dv_k f_X12_goesAlong_76b) (dv_bn (dv_putI hB.1 h0 ro_46 (j := 22) rfl (th_apart hC cf_X12) hst181 (Eq.refl _) (by decide))))
            have fp181 : mo_f G H181 a0 22 = x37.toInt := mo_f_St hst181
            have mm38 := hst181.2.1
            exact jn184 H181 locs ls hB hR (lv_sub hl [1, 2] rfl) hF (by omega) (by omega) (by omega)
        · replace hF := hF.trans (congrArg (dv_k f_X12_goesAlong_76b) (if_neg (Int.not_le.mpr c79)))
          refine lv_iload hx hb gX12_goesAlong_5.2.2.2.2.1 (lv_at hl 3 rfl) ?_
          have sm := oS j76_4.toInt (by omega) (by omega)
          have ge82 := mo_gs_e (i := i) (p := p_) (q := q_) (m := m_) (k := j76_4.toInt) (by omega) (by omega)
          have nzs := mo_tf_nz (k := mo_v G H0 a0 2) (b := 80 + B) (n := n0) (i := (mo_st i p_ q_ j76_4.toInt)) (by rw [← eT]; exact (mo_sum_b sm).2.2)
          have jn97 : ∀ (H97 : Heap) (locs : List Loc) (ls : Array Slot) , th_B G Γ Γ [(46, 22), (46, 24), (46, 23), (46, 25), (46, 49), (46, 50), (46, 51), (46, 52), (69, 0)] H0 H97 locs → th_RC G Γ H97 → lv_has ls 5 [(3, .int s72_0), (0, .ref a0), (2, .int p2), (4, .int j76_4)] → F = dv_k f_X12_goesAlong_76b (f_X12_goesAlong_97 (dv G Γ H97) (s72_0.toInt) ((a0 : Int)) (p2.toInt) (j76_4.toInt)) → mo_f G H97 a0 22 = B + mo_st i p_ q_ j76_4.toInt → mo_f G H97 a0 23 = B + n0 → mo_f G H97 a0 25 = 1 → W p l e ({ frames := 50, cells := 0, slots := 0, locals := 1594 } : Room) s m ([.ref a0, .int p1, .int p2] : List Value).toArray below meth c H97 locs 0 0 (MQ below (th_Q (fun (v : Option Value) (H1 : Heap) => v = none ∧ th_I G Γ H1 ∧ th_F G Γ [(46, 22), (46, 24), (46, 23), (46, 25), (46, 49), (46, 50), (46, 51), (46, 52), (69, 0)] H0 H1 ∧ th_RC G Γ H1 ∧ (mo_f G H1 a0 22 = 2400 + j + 1) ∧ (f_X12_goesAlong (dv G Γ H0) (a0 : Int) p1.toInt p2.toInt = (dv G Γ H1, 0))) G) ([.ref a0, .int p1, .int p2] : List Value).toArray s 0 0 (fun q => G.1.2.2 ≤ q)) (F0 m 97 ls []) := by
            intro H97 locs ls hB hR hl hF g97_0 g97_1 g97_2
            have fv39_48 : mo_f G H97 a0 48 = mo_f G H0 a0 48 := mo_f_F hB.2.2 h0 (by decide) (by decide)
            have vw_H97_2 : mo_v G H97 a0 2 = mo_v G H0 a0 2 := mo_v_F (r := 48) hB.1 hB.2.2 h0 rfl ro_48 (by decide) (by decide)
            replace hF := hF.trans (congrArg (dv_k f_X12_goesAlong_76b) (f_X12_goesAlong_97.eq_1 (dv G Γ H97) (s72_0.toInt) ((a0 : Int)) (p2.toInt) (j76_4.toInt)))
            refine lv_aload_n hx hb gX12_goesAlong_6.2.2.2.2.1 rfl (lv_at hl 1 rfl) ?_
            refine lv_iconst (v := 0) hx hb gX12_goesAlong_6.2.2.2.2.2.1 (by decide) ?_
            refine th_put hC cf_X12 hB h0 (Or.inl h0) ro_46 rfl (j := 24) rfl (th_sI (by decide) (by decide)) (by decide) rfl narrow_b0 rfl kf_X12_291 gX12_goesAlong_6.2.2.2.2.2.2.1 (fun H99 locs hB hf hst99 => ?_)
            have hR := th_RC_F hB.1 hR hf (th_T_s h0 ro_46 hst99) (by decide)
            have fv_H99_22 : mo_f G H99 a0 22 = mo_f G H97 a0 22 := mo_f_F hf h0 (by decide) (by decide)
            have fv_H99_23 : mo_f G H99 a0 23 = mo_f G H97 a0 23 := mo_f_F hf h0 (by decide) (by decide)
            have fv_H99_25 : mo_f G H99 a0 25 = mo_f G H97 a0 25 := mo_f_F hf h0 (by decide) (by decide)
            have fv_H99_48 : mo_f G H99 a0 48 = mo_f G H97 a0 48 := mo_f_F hf h0 (by decide) (by decide)
            have fv_H99_50 : mo_f G H99 a0 50 = mo_f G H97 a0 50 := mo_f_F hf h0 (by decide) (by decide)
            have vv_H99_2 : mo_v G H99 a0 2 = mo_v G H97 a0 2 := mo_v_F (r := 48) hB.1 hf h0 rfl ro_48 (by decide) (by decide)
            replace hF := hF.trans (congrArg (dv_k f_X12_goesAlong_76b) (dv_bn (dv_putI hB.1 h0 ro_46 (j := 24) rfl (th_apart hC cf_X12) hst99 tk_0 (by decide))))
            have mm40 := hst99.2.1
            refine lv_aload_n hx hb gX12_goesAlong_6.2.2.2.2.2.2.2 rfl (lv_at hl 1 rfl) ?_
            refine th_getO (j := 53) (r2 := 69) hC cf_X12 hB.1 h0 ro_46 rfl rfl kf_X12_100 gX12_goesAlong_7.1 (fun b41 mb41 hb41 => ?_)
            have sb41 := (th_F_o hB.2.2 h0 ro_46 (j := 53) (by decide) (by decide)).symm.trans mb41
            refine lv_iload hx hb gX12_goesAlong_7.2.1 (lv_at hl 3 rfl) ?_
            refine lv_aload_n hx hb gX12_goesAlong_7.2.2.1 rfl (lv_at hl 1 rfl) ?_
            refine lv_iload_n hx hb gX12_goesAlong_7.2.2.2.1 rfl (lv_at hl 2 rfl) ?_
            refine th_call (th_runV (As := [.int p2]) (rest := [.int j76_4, .ref b41]) hC mf_X12_sumOf km_X12_308 im_X12_sumOf se_X12_sumOf (c_X12_sumOf_d 8 l G Γ H99 hB.1 hR hU a0 h0 p2 (by omega) (by omega) B (mo_st i p_ q_ j76_4.toInt) (mo_en p_ q_ m_ j76_4.toInt) ⟨by omega, by omega, by omega, by omega⟩ (by rw [((mo_ce_T (mo_v_F (r := 48) hB.1 hB.2.2 h0 rfl ro_48 (by decide) (by decide)) (show mo_f G H99 a0 23 = B + n0 by omega)).trans eT.symm), show mo_f G H99 a0 25 = 1 by omega]; exact sm)) rfl rfl ⟨Nat.le_of_ble_eq_true rfl, Nat.le_of_ble_eq_true rfl⟩ hB.1 h0 ro_46 rfl rfl hl.1 rfl (Nat.le_of_ble_eq_true rfl) gX12_goesAlong_7.2.2.2.2.1 ⟨Nat.le_refl _, Nat.le_refl _⟩) hB.2.1 (fun v110 H110 locs hp hz hS => ?_)
            obtain ⟨y42, rfl, hI1, hf, hR, z110_0, z110_1⟩ := hp
            have hB := th_B_c hB hI1 hS hf (by decide)
            have mm43 := (th_F_o hf h0 ro_46 (j := 53) (by decide) (by decide)).trans mb41
            have fv_H110_23 : mo_f G H110 a0 23 = mo_f G H99 a0 23 := mo_f_F hf h0 (by decide) (by decide)
            have fv_H110_25 : mo_f G H110 a0 25 = mo_f G H99 a0 25 := mo_f_F hf h0 (by decide) (by decide)
            have fv_H110_48 : mo_f G H110 a0 48 = mo_f G H99 a0 48 := mo_f_F hf h0 (by decide) (by decide)
            have fv_H110_50 : mo_f G H110 a0 50 = mo_f G H99 a0 50 := mo_f_F hf h0 (by decide) (by decide)
            have vv_H110_2 : mo_v G H110 a0 2 = mo_v G H99 a0 2 := mo_v_F (r := 48) hB.1 hf h0 rfl ro_48 (by decide) (by decide)
            replace hF := hF.trans (congrArg (dv_k f_X12_goesAlong_76b) (dv_bn2 (z110_1)))
            refine W.eq (g2 := F0 m 113 ls [.long y42, .int j76_4, .ref b41]) rfl ?_
            have hIo := hB.1
            refine th_lastF hC hB hb41 (Or.inl hb41) ro_69 rfl (by decide) (Eq.refl _) (by omega) (by omega) th_sLa gX12_goesAlong_7.2.2.2.2.2.1 (fun H113 locs hB hf113 hst113 => ?_)
            have hf := hf113
            have mm44 := (th_F_o hf h0 ro_46 (j := 53) (by decide) (by decide)).trans mm43
            have hR := th_RC_F hB.1 hR hf (th_T_s hb41 ro_69 hst113) (by decide)
            have fv_H113_22 : mo_f G H113 a0 22 = mo_f G H110 a0 22 := mo_f_F hf h0 (by decide) (by decide)
            have fv_H113_23 : mo_f G H113 a0 23 = mo_f G H110 a0 23 := mo_f_F hf h0 (by decide) (by decide)
            have fv_H113_25 : mo_f G H113 a0 25 = mo_f G H110 a0 25 := mo_f_F hf h0 (by decide) (by decide)
            have fv_H113_48 : mo_f G H113 a0 48 = mo_f G H110 a0 48 := mo_f_F hf h0 (by decide) (by decide)
            have fv_H113_50 : mo_f G H113 a0 50 = mo_f G H110 a0 50 := mo_f_F hf h0 (by decide) (by decide)
            have vv_H113_2 : mo_v G H113 a0 2 = mo_v G H110 a0 2 := mo_v_F (r := 48) hB.1 hf h0 rfl ro_48 (by decide) (by decide)
            replace hF := hF.trans (congrArg (dv_k f_X12_goesAlong_76b) (dv_bn (dv_stoL hIo hB.1 hU hb41 ow_69 (i := j76_4.toInt) hst113 (Eq.refl (y42.toInt)) (by omega))))
            refine lv_aload_n hx hb gX12_goesAlong_7.2.2.2.2.2.2.1 rfl (lv_at hl 1 rfl) ?_
            refine lv_aload_n hx hb gX12_goesAlong_7.2.2.2.2.2.2.2 rfl (lv_at hl 1 rfl) ?_
            refine th_getI (j := 51) hC cf_X12 hB.1 h0 ro_46 rfl rfl kf_X12_492 gX12_goesAlong_8.1 (fun x45 mx45 lx45 ux45 => ?_)
            replace hF := hF.trans (congrArg (dv_k f_X12_goesAlong_76b) (dv_bn (dv_getI h0 ro_46 (j := 51) rfl mx45 (by decide))))
            have jn134 : ∀ (locs : List Loc) (ls : Array Slot) (s134_1 : Int32), th_B G Γ Γ [(46, 22), (46, 24), (46, 23), (46, 25), (46, 49), (46, 50), (46, 51), (46, 52), (69, 0)] H0 H113 locs → lv_has ls 5 [(3, .int s72_0), (0, .ref a0), (2, .int p2), (4, .int j76_4)] → F = dv_k f_X12_goesAlong_76b (f_X12_goesAlong_134 (dv G Γ H113) (s72_0.toInt) ((a0 : Int)) (p2.toInt) (j76_4.toInt) (s134_1.toInt)) → 0 ≤ s134_1.toInt → s134_1.toInt ≤ 1 → W p l e ({ frames := 50, cells := 0, slots := 0, locals := 1594 } : Room) s m ([.ref a0, .int p1, .int p2] : List Value).toArray below meth c H113 locs 0 0 (MQ below (th_Q (fun (v : Option Value) (H1 : Heap) => v = none ∧ th_I G Γ H1 ∧ th_F G Γ [(46, 22), (46, 24), (46, 23), (46, 25), (46, 49), (46, 50), (46, 51), (46, 52), (69, 0)] H0 H1 ∧ th_RC G Γ H1 ∧ (mo_f G H1 a0 22 = 2400 + j + 1) ∧ (f_X12_goesAlong (dv G Γ H0) (a0 : Int) p1.toInt p2.toInt = (dv G Γ H1, 0))) G) ([.ref a0, .int p1, .int p2] : List Value).toArray s 0 0 (fun q => G.1.2.2 ≤ q)) (F0 m 134 ls [.int s134_1, .ref a0]) := by
              intro locs ls s134_1 hB hl hF g134_0 g134_1
              have ls134_1 := ti_lo s134_1; have us134_1 := ti_hi s134_1
              replace hF := hF.trans (congrArg (dv_k f_X12_goesAlong_76b) (f_X12_goesAlong_134.eq_1 (dv G Γ H113) (s72_0.toInt) ((a0 : Int)) (p2.toInt) (j76_4.toInt) (s134_1.toInt)))
              refine th_put hC cf_X12 hB h0 (Or.inl h0) ro_46 rfl (j := 51) rfl (th_sI (by omega) (by omega)) (by decide) rfl (th_nb (by omega) (by omega)) (th_fb (by omega) (by omega)) kf_X12_492 gX12_goesAlong_9.1 (fun H134 locs hB hf hst134 => ?_)
              have mm46 := (th_F_o hf h0 ro_46 (j := 53) (by decide) (by decide)).trans mm44
              have hR := th_RC_F hB.1 hR hf (th_T_s h0 ro_46 hst134) (by decide)
              have fv_H134_22 : mo_f G H134 a0 22 = mo_f G H113 a0 22 := mo_f_F hf h0 (by decide) (by decide)
              have fv_H134_23 : mo_f G H134 a0 23 = mo_f G H113 a0 23 := mo_f_F hf h0 (by decide) (by decide)
              have fv_H134_25 : mo_f G H134 a0 25 = mo_f G H113 a0 25 := mo_f_F hf h0 (by decide) (by decide)
              have fv_H134_48 : mo_f G H134 a0 48 = mo_f G H113 a0 48 := mo_f_F hf h0 (by decide) (by decide)
              have fv_H134_50 : mo_f G H134 a0 50 = mo_f G H113 a0 50 := mo_f_F hf h0 (by decide) (by decide)
              have vv_H134_2 : mo_v G H134 a0 2 = mo_v G H113 a0 2 := mo_v_F (r := 48) hB.1 hf h0 rfl ro_48 (by decide) (by decide)
              replace hF := hF.trans (congrArg (dv_k f_X12_goesAlong_76b) (dv_bn (dv_putI hB.1 h0 ro_46 (j := 51) rfl (th_apart hC cf_X12) hst134 (Eq.refl _) (by decide))))
              have mm47 := hst134.2.1
              refine tr_iinc (fun x48 => [(4, .int x48), (3, .int s72_0), (0, .ref a0), (2, .int p2)]) hx hb gX12_goesAlong_9.2.1 hl (k := 3) rfl (Eq.refl _) tk_1 (by omega) (by omega) (by decide) (fun _ => rfl) (fun x48 ls ex48 hl => ?_)
              replace hF := hF.trans (congrArg (dv_k f_X12_goesAlong_76b) (dv_bn (ex48.symm)))
              refine lv_goto (tgt := 76) hx hb gX12_goesAlong_9.2.2.1 (by decide) ?_
              replace hF := hF.trans (dv_kl)
              exact ih76 H134 locs ls x48 hB hR (lv_sub hl [1, 2, 3, 0] rfl) hF (by omega) (by omega) (by rw [show x48.toInt = j76_4.toInt + 1 by omega]; omega) (by omega) (by omega) (by omega) (by omega)
            have jn133 : ∀ (locs : List Loc) (ls : Array Slot) , th_B G Γ Γ [(46, 22), (46, 24), (46, 23), (46, 25), (46, 49), (46, 50), (46, 51), (46, 52), (69, 0)] H0 H113 locs → lv_has ls 5 [(3, .int s72_0), (0, .ref a0), (2, .int p2), (4, .int j76_4)] → F = dv_k f_X12_goesAlong_76b (f_X12_goesAlong_133 (dv G Γ H113) (s72_0.toInt) ((a0 : Int)) (p2.toInt) (j76_4.toInt)) → W p l e ({ frames := 50, cells := 0, slots := 0, locals := 1594 } : Room) s m ([.ref a0, .int p1, .int p2] : List Value).toArray below meth c H113 locs 0 0 (MQ below (th_Q (fun (v : Option Value) (H1 : Heap) => v = none ∧ th_I G Γ H1 ∧ th_F G Γ [(46, 22), (46, 24), (46, 23), (46, 25), (46, 49), (46, 50), (46, 51), (46, 52), (69, 0)] H0 H1 ∧ th_RC G Γ H1 ∧ (mo_f G H1 a0 22 = 2400 + j + 1) ∧ (f_X12_goesAlong (dv G Γ H0) (a0 : Int) p1.toInt p2.toInt = (dv G Γ H1, 0))) G) ([.ref a0, .int p1, .int p2] : List Value).toArray s 0 0 (fun q => G.1.2.2 ≤ q)) (F0 m 133 ls [.ref a0]) := by
              intro locs ls hB hl hF
              replace hF := hF.trans (congrArg (dv_k f_X12_goesAlong_76b) (f_X12_goesAlong_133.eq_1 (dv G Γ H113) (s72_0.toInt) ((a0 : Int)) (p2.toInt) (j76_4.toInt)))
              refine lv_iconst (v := 0) hx hb gX12_goesAlong_8.2.2.2.2.2.2.2 (by decide) ?_
              exact jn134 locs ls 0 hB (lv_sub hl [0, 1, 2, 3] rfl) (by rw [tk_0]; exact hF) (by decide) (by decide)
            refine tr_if_eq (tgt := 133) hx hb gX12_goesAlong_8.2.1 (by decide) (Eq.refl _) (fun c119 => ?_) (fun c119 => ?_)
            · replace hF := hF.trans (congrArg (dv_k f_X12_goesAlong_76b) (if_pos c119))
              exact jn133 locs ls hB (lv_sub hl [0, 1, 2, 3] rfl) hF
            · replace hF := hF.trans (congrArg (dv_k f_X12_goesAlong_76b) (if_neg c119))
              refine lv_aload_n hx hb gX12_goesAlong_8.2.2.1 rfl (lv_at hl 1 rfl) ?_
              refine th_getI (j := 24) hC cf_X12 hB.1 h0 ro_46 rfl rfl kf_X12_291 gX12_goesAlong_8.2.2.2.1 (fun x49 mx49 lx49 ux49 => ?_)
              replace hF := hF.trans (congrArg (dv_k f_X12_goesAlong_76b) (dv_bn (dv_getI h0 ro_46 (j := 24) rfl mx49 (by decide))))
              refine tr_if_ne (tgt := 133) hx hb gX12_goesAlong_8.2.2.2.2.1 (by decide) (Eq.refl _) (fun c126 => ?_) (fun c126 => ?_)
              · replace hF := hF.trans (congrArg (dv_k f_X12_goesAlong_76b) (if_pos c126))
                exact jn133 locs ls hB (lv_sub hl [0, 1, 2, 3] rfl) hF
              · replace hF := hF.trans (congrArg (dv_k f_X12_goesAlong_76b) (if_neg (not_not_intro c126)))
                refine lv_iconst (v := 1) hx hb gX12_goesAlong_8.2.2.2.2.2.1 (by decide) ?_
                refine lv_goto (tgt := 134) hx hb gX12_goesAlong_8.2.2.2.2.2.2.1 (by decide) ?_
                exact jn134 locs ls 1 hB (lv_sub hl [0, 1, 2, 3] rfl) (by rw [tk_1]; exact hF) (by decide) (by decide)
          refine tr_if_le (tgt := 97) hx hb gX12_goesAlong_5.2.2.2.2.2.1 (by decide) (Eq.refl _) (fun c84 => ?_) (fun c84 => ?_)
          · replace hF := hF.trans (congrArg (dv_k f_X12_goesAlong_76b) (if_pos c84))
            exact jn97 H76 locs ls hB hR (lv_sub hl [0, 1, 2, 3] rfl) hF (by have q9 := g76_2; rw [show j76_4.toInt = 0 by omega] at q9 ⊢; omega) (by omega) (by omega)
          · replace hF := hF.trans (congrArg (dv_k f_X12_goesAlong_76b) (if_neg (Int.not_le.mpr c84)))
            refine lv_aload_n hx hb gX12_goesAlong_5.2.2.2.2.2.2.1 rfl (lv_at hl 1 rfl) ?_
            refine lv_dup hx hb gX12_goesAlong_5.2.2.2.2.2.2.2 rfl ?_
            refine th_getI (j := 22) hC cf_X12 hB.1 h0 ro_46 rfl rfl kf_X12_281 gX12_goesAlong_6.1 (fun x50 mx50 lx50 ux50 => ?_)
            replace hF := hF.trans (congrArg (dv_k f_X12_goesAlong_76b) (dv_bn (dv_getI h0 ro_46 (j := 22) rfl mx50 (by decide))))
            have fg51 : mo_f G H76 a0 22 = x50.toInt := mo_fat mx50
            have q89 := mo_gs_s (i := i) (p := p_) (q := q_) (m := m_) (k := j76_4.toInt) (by omega) (by omega)
            refine lv_iconst (v := 1) hx hb gX12_goesAlong_6.2.1 (by decide) ?_
            refine tr_iadd hx hb gX12_goesAlong_6.2.2.1 (Eq.refl _) tk_1 (by omega) (by omega) (fun x52 ex52 => ?_)
            replace hF := hF.trans (congrArg (dv_k f_X12_goesAlong_76b) (dv_bn (ex52.symm)))
            refine th_put hC cf_X12 hB h0 (Or.inl h0) ro_46 rfl (j := 22) rfl th_sIa (by decide) rfl rfl rfl kf_X12_281 gX12_goesAlong_6.2.2.2.1 (fun H94 locs hB hf hst94 => ?_)
            have hR := th_RC_F hB.1 hR hf (th_T_s h0 ro_46 hst94) (by decide)
            have fv_H94_23 : mo_f G H94 a0 23 = mo_f G H76 a0 23 := mo_f_F hf h0 (by decide) (by decide)
            have fv_H94_25 : mo_f G H94 a0 25 = mo_f G H76 a0 25 := mo_f_F hf h0 (by decide) (by decide)
            have fv_H94_48 : mo_f G H94 a0 48 = mo_f G H76 a0 48 := mo_f_F hf h0 (by decide) (by decide)
            have fv_H94_50 : mo_f G H94 a0 50 = mo_f G H76 a0 50 := mo_f_F hf h0 (by decide) (by decide)
            have vv_H94_2 : mo_v G H94 a0 2 = mo_v G H76 a0 2 := mo_v_F (r := 48) hB.1 hf h0 rfl ro_48 (by decide) (by decide)
            replace hF := hF.trans (congrArg (dv_k f_X12_goesAlong_76b) (dv_bn (dv_putI hB.1 h0 ro_46 (j := 22) rfl (th_apart hC cf_X12) hst94 (Eq.refl _) (by decide))))
            have fp94 : mo_f G H94 a0 22 = x52.toInt := mo_f_St hst94
            have mm53 := hst94.2.1
            exact jn97 H94 locs ls hB hR (lv_sub hl [0, 1, 2, 3] rfl) hF (by have q9 := mo_gs_s (i := i) (p := p_) (q := q_) (m := m_) (k := j76_4.toInt) (by omega) (by omega); omega) (by omega) (by omega)
    exact lp76 ((2147483648 : Int) - (0)).toNat H42 locs ls 0 hB hR (lv_sub hl [1, 2, 3, 0] rfl) (by rw [tk_0]; exact hF) (by decide) (by decide) (by rw [show (0 : Int32).toInt = 0 from rfl]; omega) (by have w0 := tk_0; omega) (by have w0 := tk_0; omega) (by have w0 := tk_0; omega) (by have w0 := tk_0; omega)
  refine tr_icmp_ne (tgt := 58) hx hb gX12_goesAlong_3.2.2.2.2.1 (by decide) (Eq.refl _) tk_21 (fun c51 => ?_) (fun c51 => ?_)
  · replace hF := hF.trans (if_pos c51)
    refine lv_aload_n hx hb gX12_goesAlong_3.2.2.2.2.2.2.2 rfl (lv_at hl 0 rfl) ?_
    refine th_getK hC cf_X12 hB.1 h0 ro_46 rfl (j := 50) (by decide) mm12 kf_X12_489 gX12_goesAlong_4.1 ?_
    replace hF := hF.trans (dv_bn (dv_getI h0 ro_46 (j := 50) rfl mm12 (by decide)))
    have fg54 : mo_f G H42 a0 50 = x5.toInt := mo_fat mm12
    refine lv_bipush (v := 24) hx hb gX12_goesAlong_4.2.1 (by decide) ?_
    refine tr_icmp_ne (tgt := 71) hx hb gX12_goesAlong_4.2.2.1 (by decide) (Eq.refl _) tk_24 (fun c64 => ?_) (fun c64 => ?_)
    · replace hF := hF.trans (if_pos c64)
      refine lv_iconst (v := 0) hx hb gX12_goesAlong_4.2.2.2.2.2.1 (by decide) ?_
      exact jn72 locs ls 0 hB (lv_sub hl [0, 2] rfl) (by rw [tk_0]; exact hF) (by decide) (by decide) ((mo_ord_os od).2.2 (by omega) (by omega))
    · replace hF := hF.trans (if_neg (not_not_intro c64))
      refine lv_iconst (v := 1) hx hb gX12_goesAlong_4.2.2.2.1 (by decide) ?_
      refine lv_goto (tgt := 72) hx hb gX12_goesAlong_4.2.2.2.2.1 (by decide) ?_
      exact jn72 locs ls 1 hB (lv_sub hl [0, 2] rfl) (by rw [tk_1]; exact hF) (by decide) (by decide) ((mo_ord_os od).2.1 (by omega))
  · replace hF := hF.trans (if_neg (not_not_intro c51))
    refine lv_iconst (v := 3) hx hb gX12_goesAlong_3.2.2.2.2.2.1 (by decide) ?_
    refine lv_goto (tgt := 72) hx hb gX12_goesAlong_3.2.2.2.2.2.2.1 (by decide) ?_
    exact jn72 locs ls 3 hB (lv_sub hl [0, 2] rfl) (by rw [tk_3]; exact hF) (by decide) (by decide) ((mo_ord_os od).1 (by omega))
end
section
set_option maxHeartbeats 4000000 in
set_option maxRecDepth 100000 in
theorem c_X12_obeys (l : Launch) (G : th_G) (Γ : th_Ga) (H0 : Heap) (hI : th_I G Γ H0) (hU : dv_U Γ) (a0 : Nat) (h0 : Γ a0 = (46, 0)) (hR : th_RN a0 G Γ H0) : Met l yX12_obeys (.code yX12_obeys cX12_obeys 2 (some FieldType.int) :: th_tb) ({ frames := 54, cells := 0, slots := 0, locals := 1697 } : Room) (th_P [.ref a0] G H0) (th_Q (fun (v : Option Value) (H1 : Heap) => ∃ r : Int32, v = some (.int r) ∧ th_I G Γ H1 ∧ th_F G Γ [(48, 0), (61, 0), (46, 33), (46, 22), (46, 24), (58, 0), (46, 23), (46, 25), (59, 0), (60, 0), (46, 28)] H0 H1 ∧ th_RN a0 G Γ H1 ∧ (∀ z : Int, 29 ≤ z → mo_v G H1 a0 2 z = mo_v G H0 a0 2 z) ∧ (f_X12_obeys (dv G Γ H0) (a0 : Int) = (dv G Γ H1, r.toInt))) G) 0 0 (fun q => G.1.2.2 ≤ q) := by
  refine th_met RX12 (by decide) rfl (Nat.le_of_ble_eq_true rfl) ?_
  intro p e s m below meth c hC hH hr hlocks hnm ls hl
  have hx := hC.1
  have hb := hC.2.1
  have hB : th_B G Γ Γ [(48, 0), (61, 0), (46, 33), (46, 22), (46, 24), (58, 0), (46, 23), (46, 25), (59, 0), (60, 0), (46, 28)] H0 H0 [] := ⟨hI, va_S.rf, th_F_rf⟩
  have hl : lv_has ls 2 [(0, .ref a0)] := hl
  obtain ⟨F, hF0⟩ : ∃ F, F = f_X12_obeys (dv G Γ H0) ((a0 : Int)) := ⟨_, rfl⟩
  have hF := hF0.trans (f_X12_obeys.eq_1 (dv G Γ H0) ((a0 : Int)))
  refine lv_aload_n hx hb gX12_obeys_0.1 rfl (lv_at hl 0 rfl) ?_
  refine th_getI (j := 50) hC cf_X12 hB.1 h0 ro_46 rfl rfl kf_X12_489 gX12_obeys_0.2.1 (fun x1 mx1 lx1 ux1 => ?_)
  replace hF := hF.trans (dv_bn (dv_getI h0 ro_46 (j := 50) rfl mx1 (by decide)))
  by_cases k4_0 : x1.toInt = 24
  · replace hF := hF.trans (if_pos k4_0)
    refine lv_tableIn (off := 28) (tgt := 32) hx hb gX12_obeys_0.2.2.1 (by omega) (by omega) (by rw [show x1.toInt = 24 from k4_0]; decide) (by decide) ?_
    refine lv_aload_n hx hb gX12_obeys_0.2.2.2.1 rfl (lv_at hl 0 rfl) ?_
    refine lv_aload_n hx hb gX12_obeys_0.2.2.2.2.1 rfl (lv_at hl 0 rfl) ?_
    refine th_getO (j := 53) (r2 := 69) hC cf_X12 hB.1 h0 ro_46 rfl rfl kf_X12_100 gX12_obeys_0.2.2.2.2.2.1 (fun b2 mb2 hb2 => ?_)
    refine lv_iconst (v := 0) hx hb gX12_obeys_0.2.2.2.2.2.2.1 (by decide) ?_
    refine th_laldF hC hB.1 hb2 ro_69 rfl tk_0 (by omega) (by omega) rfl gX12_obeys_0.2.2.2.2.2.2.2 (fun y3 my3 ly3 uy3 => ?_)
    replace hF := hF.trans (dv_bn (dv_aldL hB.1 hU hb2 ow_69 (z := 0) my3 (by omega)))
    refine th_call (th_runS (As := [.long y3]) (rest := [.ref a0]) hC mf_X12_small km_X12_503 st_X12_small (c_X12_small l G Γ H0 hB.1 hU y3) rfl rfl ⟨Nat.le_of_ble_eq_true rfl, Nat.le_of_ble_eq_true rfl⟩ rfl hl.1 rfl (Nat.le_of_ble_eq_true rfl) gX12_obeys_1.1 ⟨Nat.le_refl _, Nat.le_refl _⟩) hB.2.1 (fun v39 H39 locs hp hz hS => ?_)
    obtain ⟨x4, rfl, lx4, ux4, q39_0, rfl⟩ := hp
    have hB := th_B_s hB hS
    replace hF := hF.trans (dv_bn2 (q39_0))
    refine W.eq (g2 := F0 m 42 ls [.int x4, .ref a0]) rfl ?_
    refine th_call (th_runV (As := [.int x4]) (rest := []) hC mf_X12_rollsKept km_X12_385 im_X12_rollsKept se_X12_rollsKept (c_X12_rollsKept l G Γ H0 hB.1 hU a0 h0 hR x4) rfl rfl ⟨Nat.le_of_ble_eq_true rfl, Nat.le_of_ble_eq_true rfl⟩ hB.1 h0 ro_46 rfl rfl hl.1 rfl (Nat.le_of_ble_eq_true rfl) gX12_obeys_1.2.1 ⟨Nat.le_refl _, Nat.le_refl _⟩) hB.2.1 (fun v42 H42 locs hp hz hS => ?_)
    obtain ⟨x5, rfl, lx5, ux5, hI1, hf, hR, z42_0, z42_1⟩ := hp
    have hB := th_B_c hB hI1 hS hf (by decide)
    replace hF := hF.trans (dv_bn2 (z42_1))
    refine W.eq (g2 := F0 m 45 ls [.int x5]) rfl ?_
    exact th_iret hC hH hr hlocks rfl hB.2.1 ⟨_, rfl, hB.1, hB.2.2, hR, z42_0, (hF0.symm.trans hF)⟩ gX12_obeys_1.2.2.1
  replace hF := hF.trans (if_neg k4_0)
  by_cases k4_1 : x1.toInt = 25
  · replace hF := hF.trans (if_pos k4_1)
    refine lv_tableIn (off := 42) (tgt := 46) hx hb gX12_obeys_0.2.2.1 (by omega) (by omega) (by rw [show x1.toInt = 25 from k4_1]; decide) (by decide) ?_
    refine lv_aload_n hx hb gX12_obeys_1.2.2.2.1 rfl (lv_at hl 0 rfl) ?_
    refine th_call (th_runV (As := []) (rest := []) hC mf_X12_mirrorsKept km_X12_388 im_X12_mirrorsKept se_X12_mirrorsKept (c_X12_mirrorsKept l G Γ H0 hB.1 hU a0 h0 hR) rfl rfl ⟨Nat.le_of_ble_eq_true rfl, Nat.le_of_ble_eq_true rfl⟩ hB.1 h0 ro_46 rfl rfl hl.1 rfl (Nat.le_of_ble_eq_true rfl) gX12_obeys_1.2.2.2.2.1 ⟨Nat.le_refl _, Nat.le_refl _⟩) hB.2.1 (fun v47 H47 locs hp hz hS => ?_)
    obtain ⟨x6, rfl, lx6, ux6, hI1, hf, hR, z47_0, z47_1⟩ := hp
    have hB := th_B_c hB hI1 hS hf (by decide)
    replace hF := hF.trans (dv_bn2 (z47_1))
    refine W.eq (g2 := F0 m 50 ls [.int x6]) rfl ?_
    exact th_iret hC hH hr hlocks rfl hB.2.1 ⟨_, rfl, hB.1, hB.2.2, hR, z47_0, (hF0.symm.trans hF)⟩ gX12_obeys_1.2.2.2.2.2.1
  replace hF := hF.trans (if_neg k4_1)
  by_cases k4_2 : x1.toInt = 26
  · replace hF := hF.trans (if_pos k4_2)
    refine lv_tableIn (off := 47) (tgt := 51) hx hb gX12_obeys_0.2.2.1 (by omega) (by omega) (by rw [show x1.toInt = 26 from k4_2]; decide) (by decide) ?_
    refine lv_aload_n hx hb gX12_obeys_1.2.2.2.2.2.2.1 rfl (lv_at hl 0 rfl) ?_
    refine th_call (th_runV (As := []) (rest := []) hC mf_X12_passesKept km_X12_391 im_X12_passesKept se_X12_passesKept (c_X12_passesKept l G Γ H0 hB.1 hU a0 h0 hR) rfl rfl ⟨Nat.le_of_ble_eq_true rfl, Nat.le_of_ble_eq_true rfl⟩ hB.1 h0 ro_46 rfl rfl hl.1 rfl (Nat.le_of_ble_eq_true rfl) gX12_obeys_1.2.2.2.2.2.2.2 ⟨Nat.le_refl _, Nat.le_refl _⟩) hB.2.1 (fun v52 H52 locs hp hz hS => ?_)
    obtain ⟨x7, rfl, lx7, ux7, hI1, hf, hR, z52_0, z52_1⟩ := hp
    have hB := th_B_c hB hI1 hS hf (by decide)
    replace hF := hF.trans (dv_bn2 (z52_1))
    refine W.eq (g2 := F0 m 55 ls [.int x7]) rfl ?_
    exact th_iret hC hH hr hlocks rfl hB.2.1 ⟨_, rfl, hB.1, hB.2.2, hR, z52_0, (hF0.symm.trans hF)⟩ gX12_obeys_2.1
  replace hF := hF.trans (if_neg k4_2)
  refine lv_tableOut (tgt := 56) hx hb gX12_obeys_0.2.2.1 (by omega) (by decide) ?_
  refine lv_aload_n hx hb gX12_obeys_2.2.1 rfl (lv_at hl 0 rfl) ?_
  refine lv_aload_n hx hb gX12_obeys_2.2.2.1 rfl (lv_at hl 0 rfl) ?_
  refine th_getO (j := 53) (r2 := 69) hC cf_X12 hB.1 h0 ro_46 rfl rfl kf_X12_100 gX12_obeys_2.2.2.2.1 (fun b8 mb8 hb8 => ?_)
  refine lv_iconst (v := 0) hx hb gX12_obeys_2.2.2.2.2.1 (by decide) ?_
  refine th_laldF hC hB.1 hb8 ro_69 rfl tk_0 (by omega) (by omega) rfl gX12_obeys_2.2.2.2.2.2.1 (fun y9 my9 ly9 uy9 => ?_)
  replace hF := hF.trans (dv_bn (dv_aldL hB.1 hU hb8 ow_69 (z := 0) my9 (by omega)))
  refine th_call (th_runS (As := [.long y9]) (rest := [.ref a0]) hC mf_X12_small km_X12_503 st_X12_small (c_X12_small l G Γ H0 hB.1 hU y9) rfl rfl ⟨Nat.le_of_ble_eq_true rfl, Nat.le_of_ble_eq_true rfl⟩ rfl hl.1 rfl (Nat.le_of_ble_eq_true rfl) gX12_obeys_2.2.2.2.2.2.2.1 ⟨Nat.le_refl _, Nat.le_refl _⟩) hB.2.1 (fun v63 H63 locs hp hz hS => ?_)
  obtain ⟨x10, rfl, lx10, ux10, q63_0, rfl⟩ := hp
  have hB := th_B_s hB hS
  replace hF := hF.trans (dv_bn2 (q63_0))
  refine W.eq (g2 := F0 m 66 ls [.int x10, .ref a0]) rfl ?_
  refine lv_aload_n hx hb gX12_obeys_2.2.2.2.2.2.2.2 rfl (lv_at hl 0 rfl) ?_
  refine th_getK hC cf_X12 hB.1 h0 ro_46 rfl (j := 53) (by decide) mb8 kf_X12_100 gX12_obeys_3.1 ?_
  refine lv_iconst (v := 1) hx hb gX12_obeys_3.2.1 (by decide) ?_
  refine th_laldF hC hB.1 hb8 ro_69 rfl tk_1 (by omega) (by omega) rfl gX12_obeys_3.2.2.1 (fun y11 my11 ly11 uy11 => ?_)
  replace hF := hF.trans (dv_bn (dv_aldL hB.1 hU hb8 ow_69 (z := 1) my11 (by omega)))
  refine th_call (th_runS (As := [.long y11]) (rest := [.int x10, .ref a0]) hC mf_X12_small km_X12_503 st_X12_small (c_X12_small l G Γ H0 hB.1 hU y11) rfl rfl ⟨Nat.le_of_ble_eq_true rfl, Nat.le_of_ble_eq_true rfl⟩ rfl hl.1 rfl (Nat.le_of_ble_eq_true rfl) gX12_obeys_3.2.2.2.1 ⟨Nat.le_refl _, Nat.le_refl _⟩) hB.2.1 (fun v72 H72 locs hp hz hS => ?_)
  obtain ⟨x12, rfl, lx12, ux12, q72_0, rfl⟩ := hp
  have hB := th_B_s hB hS
  replace hF := hF.trans (dv_bn2 (q72_0))
  refine W.eq (g2 := F0 m 75 ls [.int x12, .int x10, .ref a0]) rfl ?_
  refine lv_aload_n hx hb gX12_obeys_3.2.2.2.2.1 rfl (lv_at hl 0 rfl) ?_
  refine th_getK hC cf_X12 hB.1 h0 ro_46 rfl (j := 53) (by decide) mb8 kf_X12_100 gX12_obeys_3.2.2.2.2.2.1 ?_
  refine lv_iconst (v := 2) hx hb gX12_obeys_3.2.2.2.2.2.2.1 (by decide) ?_
  refine th_laldF hC hB.1 hb8 ro_69 rfl tk_2 (by omega) (by omega) rfl gX12_obeys_3.2.2.2.2.2.2.2 (fun y13 my13 ly13 uy13 => ?_)
  replace hF := hF.trans (dv_bn (dv_aldL hB.1 hU hb8 ow_69 (z := 2) my13 (by omega)))
  refine th_call (th_runS (As := [.long y13]) (rest := [.int x12, .int x10, .ref a0]) hC mf_X12_small km_X12_503 st_X12_small (c_X12_small l G Γ H0 hB.1 hU y13) rfl rfl ⟨Nat.le_of_ble_eq_true rfl, Nat.le_of_ble_eq_true rfl⟩ rfl hl.1 rfl (Nat.le_of_ble_eq_true rfl) gX12_obeys_4.1 ⟨Nat.le_refl _, Nat.le_refl _⟩) hB.2.1 (fun v81 H81 locs hp hz hS => ?_)
  obtain ⟨x14, rfl, lx14, ux14, q81_0, rfl⟩ := hp
  have hB := th_B_s hB hS
  replace hF := hF.trans (dv_bn2 (q81_0))
  refine W.eq (g2 := F0 m 84 ls [.int x14, .int x12, .int x10, .ref a0]) rfl ?_
  refine th_call (th_runV (As := [.int x10, .int x12, .int x14]) (rest := []) hC mf_X12_laysKept km_X12_379 im_X12_laysKept se_X12_laysKept (c_X12_laysKept l G Γ H0 hB.1 hU a0 h0 hR x10 x12 x14) rfl rfl ⟨Nat.le_of_ble_eq_true rfl, Nat.le_of_ble_eq_true rfl⟩ hB.1 h0 ro_46 rfl rfl hl.1 rfl (Nat.le_of_ble_eq_true rfl) gX12_obeys_4.2.1 ⟨Nat.le_refl _, Nat.le_refl _⟩) hB.2.1 (fun v84 H84 locs hp hz hS => ?_)
  obtain ⟨x15, rfl, lx15, ux15, hI1, hf, hR, z84_0, z84_1⟩ := hp
  have hB := th_B_c hB hI1 hS hf (by decide)
  have mm16 := (th_F_o hf h0 ro_46 (j := 53) (by decide) (by decide)).trans mb8
  replace hF := hF.trans (dv_bn2 (z84_1))
  refine W.eq (g2 := F0 m 87 ls [.int x15]) rfl ?_
  refine lv_istore_n (lv' := [(1, .int x15), (0, .ref a0)]) hx hb gX12_obeys_4.2.2.1 rfl hl (by decide) rfl (fun ls hl => ?_)
  refine lv_aload_n hx hb gX12_obeys_4.2.2.2.1 rfl (lv_at hl 1 rfl) ?_
  refine lv_iload_n hx hb gX12_obeys_4.2.2.2.2.1 rfl (lv_at hl 0 rfl) ?_
  have jn101 : ∀ (locs : List Loc) (ls : Array Slot) (s101_1 : Int32), th_B G Γ Γ [(48, 0), (61, 0), (46, 33), (46, 22), (46, 24), (58, 0), (46, 23), (46, 25), (59, 0), (60, 0), (46, 28)] H0 H84 locs → lv_has ls 2 [(1, .int x15)] → F = f_X12_obeys_101 (dv G Γ H84) (x15.toInt) ((a0 : Int)) (s101_1.toInt) → W p l e ({ frames := 54, cells := 0, slots := 0, locals := 1697 } : Room) s m ([.ref a0] : List Value).toArray below meth c H84 locs 0 0 (MQ below (th_Q (fun (v : Option Value) (H1 : Heap) => ∃ r : Int32, v = some (.int r) ∧ th_I G Γ H1 ∧ th_F G Γ [(48, 0), (61, 0), (46, 33), (46, 22), (46, 24), (58, 0), (46, 23), (46, 25), (59, 0), (60, 0), (46, 28)] H0 H1 ∧ th_RN a0 G Γ H1 ∧ (∀ z : Int, 29 ≤ z → mo_v G H1 a0 2 z = mo_v G H0 a0 2 z) ∧ (f_X12_obeys (dv G Γ H0) (a0 : Int) = (dv G Γ H1, r.toInt))) G) ([.ref a0] : List Value).toArray s 0 0 (fun q => G.1.2.2 ≤ q)) (F0 m 101 ls [.int s101_1, .ref a0]) := by
    intro locs ls s101_1 hB hl hF
    have ls101_1 := ti_lo s101_1; have us101_1 := ti_hi s101_1
    replace hF := hF.trans (f_X12_obeys_101.eq_1 (dv G Γ H84) (x15.toInt) ((a0 : Int)) (s101_1.toInt))
    refine th_put hC cf_X12 hB h0 (Or.inl h0) ro_46 rfl (j := 28) rfl th_sIa (by decide) rfl rfl rfl kf_X12_320 gX12_obeys_5.2.2.1 (fun H101 locs hB hf hst101 => ?_)
    have mm17 := (th_F_o hf h0 ro_46 (j := 53) (by decide) (by decide)).trans mm16
    have hR := th_RN_F hB.1 hR h0 hf (th_T_s h0 ro_46 hst101) (by decide)
    have vv_H101_2 : mo_v G H101 a0 2 = mo_v G H84 a0 2 := mo_v_F (r := 48) hB.1 hf h0 rfl ro_48 (by decide) (by decide)
    replace hF := hF.trans (dv_bn (dv_putI hB.1 h0 ro_46 (j := 28) rfl (th_apart hC cf_X12) hst101 (Eq.refl _) (by decide)))
    refine lv_iload_n hx hb gX12_obeys_5.2.2.2.1 rfl (lv_at hl 0 rfl) ?_
    exact th_iret hC hH hr hlocks rfl hB.2.1 ⟨_, rfl, hB.1, hB.2.2, hR, fun z a9 => by rw [vv_H101_2]; exact z84_0 z a9, (hF0.symm.trans hF)⟩ gX12_obeys_5.2.2.2.2
  refine tr_if_ge (tgt := 100) hx hb gX12_obeys_4.2.2.2.2.2.1 (by decide) (Eq.refl _) (fun c90 => ?_) (fun c90 => ?_)
  · replace hF := hF.trans (if_pos c90)
    refine lv_iload_n hx hb gX12_obeys_5.2.1 rfl (lv_at hl 0 rfl) ?_
    exact jn101 locs ls x15 hB (lv_sub hl [0] rfl) hF
  · replace hF := hF.trans (if_neg (Int.not_le.mpr c90))
    refine lv_aload_n hx hb gX12_obeys_4.2.2.2.2.2.2.1 rfl (lv_at hl 1 rfl) ?_
    refine th_getI (j := 28) hC cf_X12 hB.1 h0 ro_46 rfl rfl kf_X12_320 gX12_obeys_4.2.2.2.2.2.2.2 (fun x18 mx18 lx18 ux18 => ?_)
    replace hF := hF.trans (dv_bn (dv_getI h0 ro_46 (j := 28) rfl mx18 (by decide)))
    refine lv_goto (tgt := 101) hx hb gX12_obeys_5.1 (by decide) ?_
    exact jn101 locs ls x18 hB (lv_sub hl [0] rfl) hF

set_option maxHeartbeats 4000000 in
set_option maxRecDepth 100000 in
theorem c_X12_runs (l : Launch) (G : th_G) (Γ : th_Ga) (H0 : Heap) (hI : th_I G Γ H0) (hU : dv_U Γ) (a0 : Nat) (h0 : Γ a0 = (46, 0)) (hR : th_RN a0 G Γ H0) (p1 : Int32) (f1 : 2400 ≤ p1.toInt) (g1 : p1.toInt ≤ 2800) (i j : Int) (k1 : mo_f G H0 a0 48 = 2400 + i) (k2 : 0 ≤ i ∧ j ≤ p1.toInt - 2400) (k3 : mo_ord (mo_tf (mo_v G H0 a0 2) 2480 (p1.toInt - 2400)) i j) : Met l yX12_runs (.code yX12_runs cX12_runs 5 (some FieldType.boolean) :: th_tb) ({ frames := 55, cells := 0, slots := 0, locals := 1718 } : Room) (th_P [.ref a0, .int p1] G H0) (th_Q (fun (v : Option Value) (H1 : Heap) => ∃ r : Int32, v = some (.int r) ∧ 0 ≤ r.toInt ∧ r.toInt ≤ 1 ∧ th_I G Γ H1 ∧ th_F G Γ [(46, 22), (46, 24), (46, 23), (46, 25), (46, 49), (46, 50), (46, 51), (46, 52), (69, 0), (48, 0), (61, 0), (46, 33), (58, 0), (59, 0), (60, 0), (46, 28), (46, 27), (46, 48)] H0 H1 ∧ th_RN a0 G Γ H1 ∧ (∀ z : Int, 29 ≤ z → mo_v G H1 a0 2 z = mo_v G H0 a0 2 z) ∧ (r.toInt = 1 → mo_f G H1 a0 48 = 2400 + j + 1) ∧ (f_X12_runs (dv G Γ H0) (a0 : Int) p1.toInt = (dv G Γ H1, r.toInt))) G) 0 0 (fun q => G.1.2.2 ≤ q) := by
  refine th_met RX12 (by decide) rfl (Nat.le_of_ble_eq_true rfl) ?_
  intro p e s m below meth c hC hH hr hlocks hnm ls hl
  have hx := hC.1
  have hb := hC.2.1
  have hB : th_B G Γ Γ [(46, 22), (46, 24), (46, 23), (46, 25), (46, 49), (46, 50), (46, 51), (46, 52), (69, 0), (48, 0), (61, 0), (46, 33), (58, 0), (59, 0), (60, 0), (46, 28), (46, 27), (46, 48)] H0 H0 [] := ⟨hI, va_S.rf, th_F_rf⟩
  have hl : lv_has ls 5 [(0, .ref a0), (1, .int p1)] := hl
  have lp1 := ti_lo p1; have up1 := ti_hi p1
  obtain ⟨F, hF0⟩ : ∃ F, F = f_X12_runs (dv G Γ H0) ((a0 : Int)) (p1.toInt) := ⟨_, rfl⟩
  have hF := hF0.trans (f_X12_runs.eq_1 (dv G Γ H0) ((a0 : Int)) (p1.toInt))
  refine lv_aload_n hx hb gX12_runs_0.1 rfl (lv_at hl 0 rfl) ?_
  refine lv_iload_n hx hb gX12_runs_0.2.1 rfl (lv_at hl 1 rfl) ?_
  refine lv_iconst (v := 0) hx hb gX12_runs_0.2.2.1 (by decide) ?_
  refine th_call (th_runV (As := [.int p1, .int 0]) (rest := []) hC mf_X12_goesAlong km_X12_507 im_X12_goesAlong se_X12_goesAlong (c_X12_goesAlong l G Γ H0 hB.1 hR.1 hU a0 h0 p1 (by omega) (by omega) 0 (by decide) (by decide) i j k1 k2 k3) rfl rfl ⟨Nat.le_of_ble_eq_true rfl, Nat.le_of_ble_eq_true rfl⟩ hB.1 h0 ro_46 rfl rfl hl.1 rfl (Nat.le_of_ble_eq_true rfl) gX12_runs_0.2.2.2.1 ⟨Nat.le_refl _, Nat.le_refl _⟩) hB.2.1 (fun v3 H3 locs hp hz hS => ?_)
  have hRD := hR
  obtain ⟨rfl, hI1, hf, hR, z3_0, z3_1⟩ := hp
  have hR := th_RN_c hR hRD hI1 h0 hf (by decide)
  have hB := th_B_c hB hI1 hS hf (by decide)
  have fv_H3_48 : mo_f G H3 a0 48 = mo_f G H0 a0 48 := mo_f_F hf h0 (by decide) (by decide)
  have vv_H3_2 : mo_v G H3 a0 2 = mo_v G H0 a0 2 := mo_v_F (r := 48) hB.1 hf h0 rfl ro_48 (by decide) (by decide)
  have zf3 := z3_1
  rw [tk_0] at zf3
  replace hF := hF.trans (dv_bn2 (zf3))
  refine W.eq (g2 := F0 m 6 ls []) rfl ?_
  refine lv_aload_n hx hb gX12_runs_0.2.2.2.2.1 rfl (lv_at hl 0 rfl) ?_
  refine th_getI (j := 49) hC cf_X12 hB.1 h0 ro_46 rfl rfl kf_X12_495 gX12_runs_0.2.2.2.2.2.1 (fun x1 mx1 lx1 ux1 => ?_)
  replace hF := hF.trans (dv_bn (dv_getI h0 ro_46 (j := 49) rfl mx1 (by decide)))
  refine lv_istore_n (lv' := [(2, .int x1), (0, .ref a0), (1, .int p1)]) hx hb gX12_runs_0.2.2.2.2.2.2.1 rfl hl (by decide) rfl (fun ls hl => ?_)
  refine lv_aload_n hx hb gX12_runs_0.2.2.2.2.2.2.2 rfl (lv_at hl 1 rfl) ?_
  refine th_getI (j := 22) hC cf_X12 hB.1 h0 ro_46 rfl rfl kf_X12_281 gX12_runs_1.1 (fun x2 mx2 lx2 ux2 => ?_)
  replace hF := hF.trans (dv_bn (dv_getI h0 ro_46 (j := 22) rfl mx2 (by decide)))
  have fg3 : mo_f G H3 a0 22 = x2.toInt := mo_fat mx2
  refine lv_istore_n (lv' := [(3, .int x2), (2, .int x1), (0, .ref a0), (1, .int p1)]) hx hb gX12_runs_1.2.1 rfl hl (by decide) rfl (fun ls hl => ?_)
  refine lv_iconst (v := 0) hx hb gX12_runs_1.2.2.1 (by decide) ?_
  refine lv_istore (lv' := [(4, .int 0), (3, .int x2), (2, .int x1), (0, .ref a0), (1, .int p1)]) hx hb gX12_runs_1.2.2.2.1 hl (by decide) rfl (fun ls hl => ?_)
  have lp19 : ∀ (n19 : Nat) (H19 : Heap) (locs : List Loc) (ls : Array Slot) (j19_4 : Int32), th_B G Γ Γ [(46, 22), (46, 24), (46, 23), (46, 25), (46, 49), (46, 50), (46, 51), (46, 52), (69, 0), (48, 0), (61, 0), (46, 33), (58, 0), (59, 0), (60, 0), (46, 28), (46, 27), (46, 48)] H0 H19 locs → th_RN a0 G Γ H19 → lv_has ls 5 [(3, .int x2), (2, .int x1), (0, .ref a0), (1, .int p1), (4, .int j19_4)] → F = dv_lp f_X12_runs_19b (dv G Γ H19, x2.toInt, x1.toInt, (a0 : Int), p1.toInt, j19_4.toInt) → (∀ z : Int, 29 ≤ z → mo_v G H19 a0 2 z = mo_v G H0 a0 2 z) → mo_f G H19 a0 48 = mo_f G H0 a0 48 → (2147483648 : Int) - j19_4.toInt ≤ (n19 : Int) → W p l e ({ frames := 55, cells := 0, slots := 0, locals := 1718 } : Room) s m ([.ref a0, .int p1] : List Value).toArray below meth c H19 locs 0 0 (MQ below (th_Q (fun (v : Option Value) (H1 : Heap) => ∃ r : Int32, v = some (.int r) ∧ 0 ≤ r.toInt ∧ r.toInt ≤ 1 ∧ th_I G Γ H1 ∧ th_F G Γ [(46, 22), (46, 24), (46, 23), (46, 25), (46, 49), (46, 50), (46, 51), (46, 52), (69, 0), (48, 0), (61, 0), (46, 33), (58, 0), (59, 0), (60, 0), (46, 28), (46, 27), (46, 48)] H0 H1 ∧ th_RN a0 G Γ H1 ∧ (∀ z : Int, 29 ≤ z → mo_v G H1 a0 2 z = mo_v G H0 a0 2 z) ∧ (r.toInt = 1 → mo_f G H1 a0 48 = 2400 + j + 1) ∧ (f_X12_runs (dv G Γ H0) (a0 : Int) p1.toInt = (dv G Γ H1, r.toInt))) G) ([.ref a0, .int p1] : List Value).toArray s 0 0 (fun q => G.1.2.2 ≤ q)) (F0 m 19 ls []) := by
    intro n19
    induction n19 with
    | zero => intro H19 locs ls j19_4 hB hR hl hF g19_0 g19_1 hm19; exact absurd hm19 (by have := ti_hi j19_4; omega)
    | succ n19 ih19 =>
      intro H19 locs ls j19_4 hB hR hl hF g19_0 g19_1 hm19
      have lj19_4 := ti_lo j19_4; have uj19_4 := ti_hi j19_4
      have hm19 : (2147483648 : Int) - j19_4.toInt ≤ (n19 : Int) + 1 := by omega
      replace hF := hF.trans (dv_lp_eq)
      replace hF := hF.trans (congrArg (dv_k f_X12_runs_19b) (f_X12_runs_19c.eq_1 (dv G Γ H19) (x2.toInt) (x1.toInt) ((a0 : Int)) (p1.toInt) (j19_4.toInt)))
      refine lv_iload hx hb gX12_runs_1.2.2.2.2.1 (lv_at hl 4 rfl) ?_
      refine lv_iload_n hx hb gX12_runs_1.2.2.2.2.2.1 rfl (lv_at hl 1 rfl) ?_
      refine tr_icmp_ge (tgt := 73) hx hb gX12_runs_1.2.2.2.2.2.2.1 (by decide) (Eq.refl _) (Eq.refl _) (fun c22 => ?_) (fun c22 => ?_)
      · replace hF := hF.trans (congrArg (dv_k f_X12_runs_19b) (if_pos c22))
        refine lv_aload_n hx hb gX12_runs_4.2.2.2.2.2.2.2 rfl (lv_at hl 2 rfl) ?_
        refine lv_iload_n hx hb gX12_runs_5.1 rfl (lv_at hl 0 rfl) ?_
        refine th_put hC cf_X12 hB h0 (Or.inl h0) ro_46 rfl (j := 48) rfl th_sIa (by decide) rfl rfl rfl kf_X12_480 gX12_runs_5.2.1 (fun H75 locs hB hf hst75 => ?_)
        have hR := th_RN_F hB.1 hR h0 hf (th_T_s h0 ro_46 hst75) (by decide)
        have fv_H75_22 : mo_f G H75 a0 22 = mo_f G H19 a0 22 := mo_f_F hf h0 (by decide) (by decide)
        have vv_H75_2 : mo_v G H75 a0 2 = mo_v G H19 a0 2 := mo_v_F (r := 48) hB.1 hf h0 rfl ro_48 (by decide) (by decide)
        replace hF := hF.trans (congrArg (dv_k f_X12_runs_19b) (dv_bn (dv_putI hB.1 h0 ro_46 (j := 48) rfl (th_apart hC cf_X12) hst75 (Eq.refl _) (by decide))))
        have fp75 : mo_f G H75 a0 48 = x2.toInt := mo_f_St hst75
        refine lv_iconst (v := 1) hx hb gX12_runs_5.2.2.1 (by decide) ?_
        replace hF := hF.trans (dv_kr)
        exact th_iret hC hH hr hlocks narrow_b1 hB.2.1 ⟨_, rfl, by decide, by decide, hB.1, hB.2.2, hR, fun z a9 => by rw [vv_H75_2]; exact g19_0 z a9, fun _ => by omega, (hF0.symm.trans (hF.trans (by rw [tk_1])))⟩ gX12_runs_5.2.2.2
      · replace hF := hF.trans (congrArg (dv_k f_X12_runs_19b) (if_neg (Int.not_le.mpr c22)))
        refine lv_aload_n hx hb gX12_runs_1.2.2.2.2.2.2.2 rfl (lv_at hl 2 rfl) ?_
        refine lv_iload_n hx hb gX12_runs_2.1 rfl (lv_at hl 3 rfl) ?_
        refine lv_iconst (v := 1) hx hb gX12_runs_2.2.1 (by decide) ?_
        refine th_call (th_runV (As := [.int p1, .int 1]) (rest := []) hC mf_X12_goesAlong km_X12_507 im_X12_goesAlong se_X12_goesAlong (c_X12_goesAlong l G Γ H19 hB.1 hR.1 hU a0 h0 p1 (by omega) (by omega) 1 (by decide) (by decide) i j (by omega) k2 (by rw [mo_tf_29 g19_0 (by omega)]; exact k3)) rfl rfl ⟨Nat.le_of_ble_eq_true rfl, Nat.le_of_ble_eq_true rfl⟩ hB.1 h0 ro_46 rfl rfl hl.1 rfl (Nat.le_of_ble_eq_true rfl) gX12_runs_2.2.2.1 ⟨Nat.le_refl _, Nat.le_refl _⟩) hB.2.1 (fun v28 H28 locs hp hz hS => ?_)
        have hRD := hR
        obtain ⟨rfl, hI1, hf, hR, z28_0, z28_1⟩ := hp
        have hR := th_RN_c hR hRD hI1 h0 hf (by decide)
        have hB := th_B_c hB hI1 hS hf (by decide)
        have fv_H28_48 : mo_f G H28 a0 48 = mo_f G H19 a0 48 := mo_f_F hf h0 (by decide) (by decide)
        have vv_H28_2 : mo_v G H28 a0 2 = mo_v G H19 a0 2 := mo_v_F (r := 48) hB.1 hf h0 rfl ro_48 (by decide) (by decide)
        have zf28 := z28_1
        rw [tk_1] at zf28
        replace hF := hF.trans (congrArg (dv_k f_X12_runs_19b) (dv_bn2 (zf28)))
        refine W.eq (g2 := F0 m 31 ls []) rfl ?_
        refine lv_aload_n hx hb gX12_runs_2.2.2.2.1 rfl (lv_at hl 2 rfl) ?_
        refine th_getI (j := 52) hC cf_X12 hB.1 h0 ro_46 rfl rfl kf_X12_498 gX12_runs_2.2.2.2.2.1 (fun x4 mx4 lx4 ux4 => ?_)
        replace hF := hF.trans (congrArg (dv_k f_X12_runs_19b) (dv_bn (dv_getI h0 ro_46 (j := 52) rfl mx4 (by decide))))
        have jn67 : ∀ (H67 : Heap) (locs : List Loc) (ls : Array Slot) , th_B G Γ Γ [(46, 22), (46, 24), (46, 23), (46, 25), (46, 49), (46, 50), (46, 51), (46, 52), (69, 0), (48, 0), (61, 0), (46, 33), (58, 0), (59, 0), (60, 0), (46, 28), (46, 27), (46, 48)] H0 H67 locs → th_RN a0 G Γ H67 → lv_has ls 5 [(3, .int x2), (2, .int x1), (0, .ref a0), (1, .int p1), (4, .int j19_4)] → F = dv_k f_X12_runs_19b (f_X12_runs_67 (dv G Γ H67) (x2.toInt) (x1.toInt) ((a0 : Int)) (p1.toInt) (j19_4.toInt)) → (∀ z : Int, 29 ≤ z → mo_v G H67 a0 2 z = mo_v G H0 a0 2 z) → mo_f G H67 a0 48 = mo_f G H0 a0 48 → th_sl H67 a0 (G.1.1.2 12 52) = .int x4 → W p l e ({ frames := 55, cells := 0, slots := 0, locals := 1718 } : Room) s m ([.ref a0, .int p1] : List Value).toArray below meth c H67 locs 0 0 (MQ below (th_Q (fun (v : Option Value) (H1 : Heap) => ∃ r : Int32, v = some (.int r) ∧ 0 ≤ r.toInt ∧ r.toInt ≤ 1 ∧ th_I G Γ H1 ∧ th_F G Γ [(46, 22), (46, 24), (46, 23), (46, 25), (46, 49), (46, 50), (46, 51), (46, 52), (69, 0), (48, 0), (61, 0), (46, 33), (58, 0), (59, 0), (60, 0), (46, 28), (46, 27), (46, 48)] H0 H1 ∧ th_RN a0 G Γ H1 ∧ (∀ z : Int, 29 ≤ z → mo_v G H1 a0 2 z = mo_v G H0 a0 2 z) ∧ (r.toInt = 1 → mo_f G H1 a0 48 = 2400 + j + 1) ∧ (f_X12_runs (dv G Γ H0) (a0 : Int) p1.toInt = (dv G Γ H1, r.toInt))) G) ([.ref a0, .int p1] : List Value).toArray s 0 0 (fun q => G.1.2.2 ≤ q)) (F0 m 67 ls []) := by
          intro H67 locs ls hB hR hl hF g67_0 g67_1 g67_2
          replace hF := hF.trans (congrArg (dv_k f_X12_runs_19b) (f_X12_runs_67.eq_1 (dv G Γ H67) (x2.toInt) (x1.toInt) ((a0 : Int)) (p1.toInt) (j19_4.toInt)))
          refine tr_iinc (fun x5 => [(4, .int x5), (3, .int x2), (2, .int x1), (0, .ref a0), (1, .int p1)]) hx hb gX12_runs_4.2.2.2.2.2.1 hl (k := 4) rfl (Eq.refl _) tk_1 (by omega) (by omega) (by decide) (fun _ => rfl) (fun x5 ls ex5 hl => ?_)
          replace hF := hF.trans (congrArg (dv_k f_X12_runs_19b) (dv_bn (ex5.symm)))
          refine lv_goto (tgt := 19) hx hb gX12_runs_4.2.2.2.2.2.2.1 (by decide) ?_
          replace hF := hF.trans (dv_kl)
          exact ih19 H67 locs ls x5 hB hR (lv_sub hl [1, 2, 3, 4, 0] rfl) hF g67_0 (by omega) (by omega)
        refine tr_if_ne (tgt := 41) hx hb gX12_runs_2.2.2.2.2.2.1 (by decide) (Eq.refl _) (fun c35 => ?_) (fun c35 => ?_)
        · replace hF := hF.trans (congrArg (dv_k f_X12_runs_19b) (if_pos c35))
          refine lv_aload_n hx hb gX12_runs_2.2.2.2.2.2.2.2 rfl (lv_at hl 2 rfl) ?_
          refine th_getI (j := 51) hC cf_X12 hB.1 h0 ro_46 rfl rfl kf_X12_492 gX12_runs_3.1 (fun x6 mx6 lx6 ux6 => ?_)
          replace hF := hF.trans (congrArg (dv_k f_X12_runs_19b) (dv_bn (dv_getI h0 ro_46 (j := 51) rfl mx6 (by decide))))
          refine tr_if_eq (tgt := 55) hx hb gX12_runs_3.2.1 (by decide) (Eq.refl _) (fun c45 => ?_) (fun c45 => ?_)
          · replace hF := hF.trans (congrArg (dv_k f_X12_runs_19b) (if_pos c45))
            refine lv_iconst (v := 0) hx hb gX12_runs_3.2.2.2.2.2.1 (by decide) ?_
            replace hF := hF.trans (dv_kr)
            exact th_iret hC hH hr hlocks narrow_b0 hB.2.1 ⟨_, rfl, by decide, by decide, hB.1, hB.2.2, hR, fun z a9 => by rw [vv_H28_2]; exact g19_0 z a9, fun h9 => absurd h9 (by decide), (hF0.symm.trans (hF.trans (by rw [tk_0])))⟩ gX12_runs_3.2.2.2.2.2.2.1
          · replace hF := hF.trans (congrArg (dv_k f_X12_runs_19b) (if_neg c45))
            refine lv_aload_n hx hb gX12_runs_3.2.2.1 rfl (lv_at hl 2 rfl) ?_
            refine th_call (th_runV (As := []) (rest := []) hC mf_X12_obeys km_X12_511 im_X12_obeys se_X12_obeys (c_X12_obeys l G Γ H28 hB.1 hU a0 h0 hR) rfl rfl ⟨Nat.le_of_ble_eq_true rfl, Nat.le_of_ble_eq_true rfl⟩ hB.1 h0 ro_46 rfl rfl hl.1 rfl (Nat.le_of_ble_eq_true rfl) gX12_runs_3.2.2.2.1 ⟨Nat.le_refl _, Nat.le_refl _⟩) hB.2.1 (fun v49 H49 locs hp hz hS => ?_)
            obtain ⟨x7, rfl, hI1, hf, hR, z49_0, z49_1⟩ := hp
            have hB := th_B_c hB hI1 hS hf (by decide)
            have mm8 := (th_F_o hf h0 ro_46 (j := 52) (by decide) (by decide)).trans mx4
            have mm9 := (th_F_o hf h0 ro_46 (j := 51) (by decide) (by decide)).trans mx6
            have fv_H49_48 : mo_f G H49 a0 48 = mo_f G H28 a0 48 := mo_f_F hf h0 (by decide) (by decide)
            replace hF := hF.trans (congrArg (dv_k f_X12_runs_19b) (dv_bn2 (z49_1)))
            refine W.eq (g2 := F0 m 52 ls [.int x7]) rfl ?_
            refine tr_if_ge (tgt := 57) hx hb gX12_runs_3.2.2.2.2.1 (by decide) (Eq.refl _) (fun c52 => ?_) (fun c52 => ?_)
            · replace hF := hF.trans (congrArg (dv_k f_X12_runs_19b) (if_pos c52))
              refine lv_aload_n hx hb gX12_runs_3.2.2.2.2.2.2.2 rfl (lv_at hl 2 rfl) ?_
              refine lv_dup hx hb gX12_runs_4.1 rfl ?_
              refine th_getI (j := 27) hC cf_X12 hB.1 h0 ro_46 rfl rfl kf_X12_317 gX12_runs_4.2.1 (fun x10 mx10 lx10 ux10 => ?_)
              replace hF := hF.trans (congrArg (dv_k f_X12_runs_19b) (dv_bn (dv_getI h0 ro_46 (j := 27) rfl mx10 (by decide))))
              refine lv_iconst (v := 1) hx hb gX12_runs_4.2.2.1 (by decide) ?_
              refine lv_iadd hx hb gX12_runs_4.2.2.2.1 ?_
              refine lv_topi (fun x11 ex11 => ?_)
              have lx11 := ti_lo x11; have ux11 := ti_hi x11
              replace hF := hF.trans (congrArg (dv_k f_X12_runs_19b) (dv_bn (dv_add_e (Eq.refl _) tk_1 ex11)))
              refine th_put hC cf_X12 hB h0 (Or.inl h0) ro_46 rfl (j := 27) rfl th_sIa (by decide) rfl rfl rfl kf_X12_317 gX12_runs_4.2.2.2.2.1 (fun H64 locs hB hf hst64 => ?_)
              have mm12 := (th_F_o hf h0 ro_46 (j := 52) (by decide) (by decide)).trans mm8
              have mm13 := (th_F_o hf h0 ro_46 (j := 51) (by decide) (by decide)).trans mm9
              have hR := th_RN_F hB.1 hR h0 hf (th_T_s h0 ro_46 hst64) (by decide)
              have fv_H64_22 : mo_f G H64 a0 22 = mo_f G H49 a0 22 := mo_f_F hf h0 (by decide) (by decide)
              have fv_H64_48 : mo_f G H64 a0 48 = mo_f G H49 a0 48 := mo_f_F hf h0 (by decide) (by decide)
              have vv_H64_2 : mo_v G H64 a0 2 = mo_v G H49 a0 2 := mo_v_F (r := 48) hB.1 hf h0 rfl ro_48 (by decide) (by decide)
              replace hF := hF.trans (congrArg (dv_k f_X12_runs_19b) (dv_bn (dv_putI hB.1 h0 ro_46 (j := 27) rfl (th_apart hC cf_X12) hst64 (Eq.refl _) (by decide))))
              have mm14 := hst64.2.1
              exact jn67 H64 locs ls hB hR (lv_sub hl [0, 1, 2, 3, 4] rfl) hF (fun z a9 => by rw [vv_H64_2, z49_0 z a9, vv_H28_2]; exact g19_0 z a9) (by omega) mm12
            · replace hF := hF.trans (congrArg (dv_k f_X12_runs_19b) (if_neg (Int.not_le.mpr c52)))
              refine lv_iconst (v := 0) hx hb gX12_runs_3.2.2.2.2.2.1 (by decide) ?_
              replace hF := hF.trans (dv_kr)
              exact th_iret hC hH hr hlocks narrow_b0 hB.2.1 ⟨_, rfl, by decide, by decide, hB.1, hB.2.2, hR, fun z a9 => by rw [z49_0 z a9, vv_H28_2]; exact g19_0 z a9, fun h9 => absurd h9 (by decide), (hF0.symm.trans (hF.trans (by rw [tk_0])))⟩ gX12_runs_3.2.2.2.2.2.2.1
        · replace hF := hF.trans (congrArg (dv_k f_X12_runs_19b) (if_neg (not_not_intro c35)))
          refine lv_goto (tgt := 67) hx hb gX12_runs_2.2.2.2.2.2.2.1 (by decide) ?_
          exact jn67 H28 locs ls hB hR (lv_sub hl [0, 1, 2, 3, 4] rfl) hF (fun z a9 => by rw [vv_H28_2]; exact g19_0 z a9) (by omega) mx4
  exact lp19 ((2147483648 : Int) - (0)).toNat H3 locs ls 0 hB hR (lv_sub hl [1, 2, 3, 4, 0] rfl) (by rw [tk_0]; exact hF) (fun z a9 => by rw [vv_H3_2]) (by have w0 := tk_0; omega) (by have w0 := tk_0; omega)
end
