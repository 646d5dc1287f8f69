section QRV
variable {V V' V1 V2 V3 V4 W W' W1 : dV} {r x a i t c v o p N lev h u s k w y ns j : Int} {tk pl cd vl : Int → Int} {D d e : Nat}
/-- how often a clause of orders runs: mark 1 -/
def cl_tm (o : Int) (cd vl : Int → Int) (m m' q0 q1 : Int) : Prop := (¬ (o = 1 ∧ cd m = 27) ∧ m' = m ∧ q1 = q0) ∨ (o = 1 ∧ cd m = 27 ∧ cd (m + 1) = 50 ∧ (1 ≤ vl (m + 1) ∧ vl (m + 1) ≤ 20) ∧ m' = m + 2 ∧ q1 = vl (m + 1))
theorem rc_law (hs : f_X5_readSums V r ns = (V1, 0)) (h4 : V1 r 4 0 = 0) : f_X5_readClause_109 V r ns = f_X5_readClause_155 V1 r := by
  unfold f_X5_readClause_109
  rw [dv_bn2 hs, bq, if_pos h4]
/-- "times" or not, then "if" or not -/
theorem rc_ord (ts : rd_ts tk pl cd vl N) (hs : f_X5_readSums V r ns = (V1, 0)) (o1 : o = 1) (hp : rk_pre o tk pl cd vl N k V1 W r x a) (k1 : 1 ≤ k) (k12 : k ≤ 12) : ∃ (V' W' : dV), f_X5_readClause_109 V r ns = (V', 0) ∧ f_X12_readOrder_61 W a = (W', 0) ∧ rk_go pl N k V1 W r x a V' W' ∧ (∀ w, w ≠ 1 → w ≠ 6 → w ≠ 7 → mkv V' x k w = mkv V1 x k w) ∧ (V' r 8 0 = -1 → ∃ m, cl_tm o cd vl (V1 r 5 0) m (mkv V1 x k 1) (mkv V' x k 1) ∧ cl_ifs o cd vl m (V' r 5 0) (V' x 0) (mkv V' x k 6) (mkv V' x k 7) (V' x 2 0)) := by
  have c4 : V1 r 4 0 ≠ 0 := by rw [hp.1.2.2.2.1, o1]; decide
  have c5 := hp.1.2.2.2.2.1
  by_cases hif : V1 r 8 0 = -1 ∧ tk (V1 r 5 0) = 309
  · obtain ⟨h8, ht⟩ := hif
    have at0 := hp.2.2.2.2.1 h8
    have w8 := hp.2.2.2.1.trans h8
    have hi : rd_in o tk pl cd vl N V1 W r x a := ⟨ts, hp.1, hp.2.1, h8, w8, at0⟩
    obtain ⟨T1, T2⟩ := rd_tT hi
    obtain ⟨i1, pp1, S1, q1⟩ := rd_iN hi (by omega)
    have hc : cd (V1 r 5 0) = 27 := (rd_wd T1 (b := 309) (e := 27) (by unfold rd_wp; omega)).mp ht
    have t1 := c_take1 (t := 309) hp.1 h8 ht
    have m1 := m_take1 (c := 27) hp.2.1 w8 (by rw [at0.1]; exact hc)
    have g2 := rk_on ts hp h8 (by omega)
    have z5 : dv_u V1 r 5 0 (V1 r 5 0 + 1) r 5 0 = V1 r 5 0 + 1 := u_e
    have z8 : dv_u V1 r 5 0 (V1 r 5 0 + 1) r 8 0 = -1 := by rw [u_j (by decide), h8]
    have zx : ∀ m z, dv_u V1 r 5 0 (V1 r 5 0 + 1) x m z = V1 x m z := fun m z => u_b c5
    generalize dv_u V1 r 5 0 (V1 r 5 0 + 1) = V2 at t1 g2 z5 z8 zx
    generalize dv_u W a 19 0 (W a 19 0 + 1) = W2 at m1 g2
    have p2 := rk_pre_g hp g2
    have at2 := p2.2.2.2.2.1 z8
    have w28 := p2.2.2.2.1.trans z8
    have zk : ∀ w, mkv V2 x k w = mkv V1 x k w := fun w => zx 1 _
    have tb := tk_bd S1
    by_cases hv : 401 ≤ tk (V1 r 5 0 + 1) ∧ tk (V1 r 5 0 + 1) ≤ 420
    · obtain ⟨cd5, vl5, -⟩ := tk_num S1 (by omega)
      have vl5 := vl5 (by omega)
      have en := c_num1 (V := V2) (l := 1) (m := 20) (n := tk (V1 r 5 0 + 1) - 400) p2.1 z8 (by rw [z5]; omega) (by omega) (by omega) (by omega)
      have em := m_num1 (W := W2) (l := 1) (m := 20) p2.2.1 w28 (by rw [at2.1, z5]; exact cd5) (by rw [at2.1, z5]; omega) (by rw [at2.1, z5]; omega)
      have g3 := rk_on ts p2 z8 (by rw [z5]; omega)
      have y5 : dv_u V2 r 5 0 (V2 r 5 0 + 1) r 5 0 = V1 r 5 0 + 2 := by rw [u_e, z5]; omega
      have yx : ∀ m z, dv_u V2 r 5 0 (V2 r 5 0 + 1) x m z = V2 x m z := fun m z => u_b c5
      generalize dv_u V2 r 5 0 (V2 r 5 0 + 1) = V3 at en g3 y5 yx
      generalize dv_u W2 a 19 0 (W2 a 19 0 + 1) = W3 at em g3
      have p3 := rk_pre_g p2 g3
      have yk : ∀ w, mkv V3 x k w = mkv V2 x k w := fun w => yx 1 _
      have e1 : f_X10_setMark V3 x 1 (tk (V1 r 5 0 + 1) - 400) = (dv_u V3 x 1 ((k - 1) * 8 + 1) (tk (V1 r 5 0 + 1) - 400), 0) := c_setm p3.2.2.2.2.2 k1 k12 (by decide) (by decide)
      have M4 := rk_mk_i (w := 1) (y := tk (V1 r 5 0 + 1) - 400) p3 (by decide) (by decide)
      generalize dv_u V3 x 1 ((k - 1) * 8 + 1) (tk (V1 r 5 0 + 1) - 400) = V4 at e1 M4
      obtain ⟨g4, x4, r4, w4, n4⟩ := M4
      have p4 := rk_pre_g p3 g4
      obtain ⟨V5, W5, e5, -, f5, g5, n5, h5⟩ := rc_if ts p4 k1 k12
      refine ⟨V5, W5, ?_, ?_, rk_go_t (rk_go_t (rk_go_t g2 g3) g4) g5, fun w h1 h6 h7 => by rw [n5 w h6 h7, n4 w h1, yk, zk], fun q => ?_⟩
      · unfold f_X5_readClause_109
        rw [dv_bn2 hs, bq, if_neg c4, dv_bn2 t1, if_neg (by decide), dv_bn2 en, bq, p3.1.2.2.1, dv_bn2 e1, if_pos (by omega), e5]
      · unfold f_X12_readOrder_61
        rw [dv_bn2 m1, if_neg (by decide), dv_bn2 em, f5]
      · have l := h5 q
        rw [r4, y5] at l
        refine ⟨V1 r 5 0 + 2, Or.inr ⟨o1, hc, cd5, by omega, rfl, ?_⟩, l⟩
        rw [n5 1 (by decide) (by decide), w4, vl5]
    · have hp1 : pl (V1 r 5 0 + 1) ≠ -1 := by omega
      have en := c_num0 (V := V2) (l := 1) (m := 20) (n := tk (V1 r 5 0 + 1) - 400) p2.1 (fun _ => ⟨by rw [z5]; omega, by omega⟩) (fun _ => by omega)
      have hbad : cd (V1 r 5 0 + 1) ≠ 50 ∨ vl (V1 r 5 0 + 1) < 1 ∨ 20 < vl (V1 r 5 0 + 1) := by
        by_cases h4 : tk (V1 r 5 0 + 1) < 400
        · exact Or.inl (tk_non S1 h4)
        · have := tk_num S1 (by omega); omega
      have em := m_num0 (W := W2) (l := 1) (m := 20) p2.2.1 w28 (by rw [at2.1, z5]; exact hbad) (by rw [at2.1, z5]; exact hp1)
      rw [at2.1, z5] at em
      have e1 : f_X10_setMark V2 x 1 (-1) = (dv_u V2 x 1 ((k - 1) * 8 + 1) (-1), 0) := c_setm p2.2.2.2.2.2 k1 k12 (by decide) (by decide)
      have M4 := rk_mk_i (w := 1) (y := -1) p2 (by decide) (by decide)
      generalize dv_u V2 x 1 ((k - 1) * 8 + 1) (-1) = V4 at e1 M4
      obtain ⟨g4, x4, r4, w4, n4⟩ := M4
      have p4 := rk_pre_g p2 g4
      have ef := c_fail p4.1 (by rw [r4]; exact z8)
      rw [r4, z5] at ef
      have g6 : rk_go pl N k V4 W2 r x a (dv_u V4 r 8 0 (pl (V1 r 5 0 + 1))) (dv_u W2 a 21 0 (pl (V1 r 5 0 + 1))) := by
        refine ⟨rk_fr_d (rd_fr_u (by decide)), re_fr_u (by decide), u_j (by decide), by rw [u_e, u_e], fun q => ?_⟩
        rw [u_e] at q
        exact absurd q hp1
      have fx : ∀ m z, dv_u V4 r 8 0 (pl (V1 r 5 0 + 1)) x m z = V4 x m z := fun m z => u_b c5
      have f8 : dv_u V4 r 8 0 (pl (V1 r 5 0 + 1)) r 8 0 ≠ -1 := by rw [u_e]; exact hp1
      generalize dv_u V4 r 8 0 (pl (V1 r 5 0 + 1)) = V6 at ef g6 fx f8
      generalize dv_u W2 a 21 0 (pl (V1 r 5 0 + 1)) = W6 at em g6
      have p6 := rk_pre_g p4 g6
      have fk : ∀ w, mkv V6 x k w = mkv V4 x k w := fun w => fx 1 _
      obtain ⟨V5, W5, e5, -, f5, g5, n5, h5⟩ := rc_if ts p6 k1 k12
      refine ⟨V5, W5, ?_, ?_, rk_go_t (rk_go_t (rk_go_t g2 g4) g6) g5, fun w h1 h6 h7 => by rw [n5 w h6 h7, fk, n4 w h1, zk], fun q => ?_⟩
      · unfold f_X5_readClause_109
        rw [dv_bn2 hs, bq, if_neg c4, dv_bn2 t1, if_neg (by decide), dv_bn2 en, bq, p2.1.2.2.1, dv_bn2 e1, if_neg (by decide), dv_bn2 ef, e5]
      · unfold f_X12_readOrder_61
        rw [dv_bn2 m1, if_neg (by decide), dv_bn2 em, f5]
      · exact absurd (g5.2.2.2.2 q).1 f8
  · have t1 := c_take0 (t := 309) hp.1 (fun q z => hif ⟨q, z⟩)
    have n27 : V1 r 8 0 = -1 → cd (V1 r 5 0) ≠ 27 := by
      intro h8 z
      have at0 := hp.2.2.2.2.1 h8
      obtain ⟨T1, T2⟩ := rd_tT (⟨ts, hp.1, hp.2.1, h8, hp.2.2.2.1.trans h8, at0⟩ : rd_in o tk pl cd vl N V1 W r x a)
      exact hif ⟨h8, (rd_wd T1 (b := 309) (e := 27) (by unfold rd_wp; omega)).mpr z⟩
    have m1 : f_X12_takes0 W a 27 = (W, 0) := by
      refine m_take0 hp.2.1 (fun q => ?_)
      have h8 : V1 r 8 0 = -1 := hp.2.2.2.1.symm.trans q
      rw [(hp.2.2.2.2.1 h8).1]
      exact n27 h8
    obtain ⟨V5, W5, e5, -, f5, g5, n5, h5⟩ := rc_if ts hp k1 k12
    refine ⟨V5, W5, ?_, ?_, g5, fun w h1 h6 h7 => n5 w h6 h7, fun q => ?_⟩
    · unfold f_X5_readClause_109
      rw [dv_bn2 hs, bq, if_neg c4, dv_bn2 t1, if_pos rfl, e5]
    · unfold f_X12_readOrder_61
      rw [dv_bn2 m1, if_pos rfl, f5]
    · have h8 := (g5.2.2.2.2 q).1
      exact ⟨V1 r 5 0, Or.inl ⟨fun z => n27 h8 z.2, rfl, n5 1 (by decide) (by decide)⟩, h5 q⟩
end QRV
section QRG
variable {V V' V1 V2 V3 V4 W W' W1 : dV} {r x a i t c v o p N lev h u s k w y ns j : Int} {tk pl cd vl : Int → Int} {D d e : Nat}
/-- what a clause's sums are: marks 2 .. 5 -/
def cl_sm (o : Int) (cd vl : Int → Int) (ns i m : Int) (X : Int → Int) (q2 q3 q4 q5 : Int) : Prop := (ns = 0 ∧ m = i ∧ q3 = q2 ∧ q4 = q2 ∧ q5 = q2) ∨ (ns = 1 ∧ i < m ∧ q4 = q3 ∧ q5 = q3 ∧ ∃ A, D_sum o cd vl 8 i m A ∧ K_seg X q2 q3 A 19) ∨ (ns = 3 ∧ ∃ (j1 j2 : Int) (A0 A1 A2 : dn), (i < j1 ∧ j1 < j2 ∧ j2 < m) ∧ D_sum o cd vl 8 i j1 A0 ∧ cd j1 = 22 ∧ D_sum o cd vl 8 (j1 + 1) j2 A1 ∧ cd j2 = 23 ∧ D_sum o cd vl 8 (j2 + 1) m A2 ∧ K_seg X q2 q3 A0 19 ∧ K_seg X q3 q4 A1 19 ∧ K_seg X q4 q5 A2 19)
/-- a clause behind its first word, which stands before i -/
def cl_bd (o : Int) (cd vl : Int → Int) (ns i j t0 : Int) (X M : Int → Int) (s : Int) : Prop := ∃ m m', cl_sm o cd vl ns i m X (M 2) (M 3) (M 4) (M 5) ∧ cl_tm o cd vl m m' t0 (M 1) ∧ cl_ifs o cd vl m' j X (M 6) (M 7) s ∧ M 5 ≤ s
theorem rc_tail (ts : rd_ts tk pl cd vl N) (hs : f_X5_readSums V r ns = (V1, 0)) (hp : rk_pre o tk pl cd vl N k V1 W r x a) (k1 : 1 ≤ k) (k12 : k ≤ 12) : ∃ (V' W' : dV), f_X5_readClause_109 V r ns = (V', 0) ∧ (o = 0 → f_X12_readClause_29 W a = (W', 0)) ∧ (o = 1 → f_X12_readOrder_61 W a = (W', 0)) ∧ rk_go pl N k V1 W r x a V' W' ∧ (∀ w, w ≠ 1 → w ≠ 6 → w ≠ 7 → mkv V' x k w = mkv V1 x k w) ∧ (V' r 8 0 = -1 → ∃ m, cl_tm o cd vl (V1 r 5 0) m (mkv V1 x k 1) (mkv V' x k 1) ∧ cl_ifs o cd vl m (V' r 5 0) (V' x 0) (mkv V' x k 6) (mkv V' x k 7) (V' x 2 0)) := by
  rcases hp.1.2.2.2.2.2 with o0 | o1
  · obtain ⟨V', W', e1, e2, -, g, n, q⟩ := rc_if ts hp k1 k12
    refine ⟨V', W', by rw [rc_law hs (by rw [hp.1.2.2.2.1, o0]), e1], fun _ => e2, fun z => by omega, g, fun w _ h6 h7 => n w h6 h7, fun z => ⟨V1 r 5 0, Or.inl ⟨fun y => by omega, rfl, n 1 (by decide) (by decide)⟩, q z⟩⟩
  · obtain ⟨V', W', e1, e2, g, n, q⟩ := rc_ord ts hs o1 hp k1 k12
    exact ⟨V', W', e1, fun z => by omega, fun _ => e2, g, n, q⟩
theorem rc_b0 (ts : rd_ts tk pl cd vl N) (hp : rk_pre o tk pl cd vl N k V W r x a) (k1 : 1 ≤ k) (k12 : k ≤ 12) : ∃ (V' W' : dV), f_X5_readClause_109 V r 0 = (V', 0) ∧ (o = 0 → f_X12_readClause_29 W a = (W', 0)) ∧ (o = 1 → f_X12_readOrder_61 W a = (W', 0)) ∧ rk_go pl N k V W r x a V' W' ∧ mkv V' x k 0 = mkv V x k 0 ∧ (V' r 8 0 = -1 → cl_bd o cd vl 0 (V r 5 0) (V' r 5 0) (mkv V x k 1) (V' x 0) (fun w => mkv V' x k w) (V' x 2 0)) := by
  obtain ⟨V1, e1, g1, x1, r1, n1, w2, w3, w4, w5⟩ := rs_0 hp k1 k12
  obtain ⟨V', W', e2, f1, f2, g2, n2, q2⟩ := rc_tail ts e1 (rk_pre_g hp g1) k1 k12
  refine ⟨V', W', e2, f1, f2, rk_go_t g1 g2, by rw [n2 0 (by decide) (by decide) (by decide), n1 0 (by decide) (by decide) (by decide) (by decide)], fun q => ?_⟩
  obtain ⟨m, h1, h2⟩ := q2 q
  rw [r1, n1 1 (by decide) (by decide) (by decide) (by decide)] at h1
  refine ⟨V r 5 0, m, Or.inl ⟨rfl, rfl, ?_, ?_, ?_⟩, h1, h2, ?_⟩
  · show mkv V' x k 3 = mkv V' x k 2
    rw [n2 3 (by decide) (by decide) (by decide), n2 2 (by decide) (by decide) (by decide), w3, w2]
  · show mkv V' x k 4 = mkv V' x k 2
    rw [n2 4 (by decide) (by decide) (by decide), n2 2 (by decide) (by decide) (by decide), w4, w2]
  · show mkv V' x k 5 = mkv V' x k 2
    rw [n2 5 (by decide) (by decide) (by decide), n2 2 (by decide) (by decide) (by decide), w5, w2]
  · show mkv V' x k 5 ≤ V' x 2 0
    rw [n2 5 (by decide) (by decide) (by decide), w5, ← x1 2 0 (by decide)]
    exact (g2.2.2.2.2 q).2.2.2.1
theorem rc_b1 (ts : rd_ts tk pl cd vl N) (hp : rk_pre o tk pl cd vl N k V W r x a) (k1 : 1 ≤ k) (k12 : k ≤ 12) : ∃ (V' W1 : dV) (y1 : Int) (W' : dV), f_X5_readClause_109 V r 1 = (V', 0) ∧ f_X12_readSum 8 W a 0 = (W1, y1) ∧ (o = 0 → f_X12_readClause_29 W1 a = (W', 0)) ∧ (o = 1 → f_X12_readOrder_61 W1 a = (W', 0)) ∧ rk_go pl N k V W r x a V' W' ∧ mkv V' x k 0 = mkv V x k 0 ∧ (V' r 8 0 = -1 → cl_bd o cd vl 1 (V r 5 0) (V' r 5 0) (mkv V x k 1) (V' x 0) (fun w => mkv V' x k w) (V' x 2 0)) := by
  obtain ⟨V1, W1, y1, e1, e0, g1, n1, w2, w3, w4, w5, q1⟩ := rs_1 ts hp k1 k12
  obtain ⟨V', W', e2, f1, f2, g2, n2, q2⟩ := rc_tail ts e1 (rk_pre_g hp g1) k1 k12
  refine ⟨V', W1, y1, W', e2, e0, f1, f2, rk_go_t g1 g2, by rw [n2 0 (by decide) (by decide) (by decide), n1 0 (by decide) (by decide) (by decide) (by decide)], fun q => ?_⟩
  obtain ⟨m, h1, h2⟩ := q2 q
  obtain ⟨s8, -, -, -, -, sz⟩ := g2.2.2.2.2 q
  obtain ⟨l, A, hD, hK⟩ := q1 s8
  rw [n1 1 (by decide) (by decide) (by decide) (by decide)] at h1
  refine ⟨V1 r 5 0, m, Or.inr (Or.inl ⟨rfl, l, ?_, ?_, A, hD, ?_⟩), h1, h2, ?_⟩
  · show mkv V' x k 4 = mkv V' x k 3
    rw [n2 4 (by decide) (by decide) (by decide), n2 3 (by decide) (by decide) (by decide), w4, w3]
  · show mkv V' x k 5 = mkv V' x k 3
    rw [n2 5 (by decide) (by decide) (by decide), n2 3 (by decide) (by decide) (by decide), w5, w3]
  · show K_seg (V' x 0) (mkv V' x k 2) (mkv V' x k 3) A 19
    rw [n2 2 (by decide) (by decide) (by decide), n2 3 (by decide) (by decide) (by decide), w2, w3]
    exact K_seg_c hK (fun z _ z1 => sz z z1)
  · show mkv V' x k 5 ≤ V' x 2 0
    rw [n2 5 (by decide) (by decide) (by decide), w5]
    exact (g2.2.2.2.2 q).2.2.2.1
theorem rc_b3 (ts : rd_ts tk pl cd vl N) (hp : rk_pre o tk pl cd vl N k V W r x a) (k1 : 1 ≤ k) (k12 : k ≤ 12) : ∃ (V' W1 : dV) (y1 : Int) (W2 W3 W' : dV), f_X5_readClause_109 V r 3 = (V', 0) ∧ f_X12_readSum 8 W a 0 = (W1, y1) ∧ f_X12_readMore W1 a 22 = (W2, 0) ∧ f_X12_readMore W2 a 23 = (W3, 0) ∧ (o = 1 → f_X12_readOrder_61 W3 a = (W', 0)) ∧ rk_go pl N k V W r x a V' W' ∧ mkv V' x k 0 = mkv V x k 0 ∧ (V' r 8 0 = -1 → cl_bd o cd vl 3 (V r 5 0) (V' r 5 0) (mkv V x k 1) (V' x 0) (fun w => mkv V' x k w) (V' x 2 0)) := by
  obtain ⟨V1, W1, y1, W2, W3, e1, e0, em, en, g1, n1, w2, q1⟩ := rs_3 ts hp k1 k12
  obtain ⟨V', W', e2, f1, f2, g2, n2, q2⟩ := rc_tail ts e1 (rk_pre_g hp g1) k1 k12
  refine ⟨V', W1, y1, W2, W3, W', e2, e0, em, en, f2, rk_go_t g1 g2, by rw [n2 0 (by decide) (by decide) (by decide), n1 0 (by decide) (by decide) (by decide) (by decide)], fun q => ?_⟩
  obtain ⟨m, h1, h2⟩ := q2 q
  obtain ⟨s8, -, -, -, -, sz⟩ := g2.2.2.2.2 q
  obtain ⟨j1, j2, A0, A1, A2, w5, l, D0, c0, D1, c1, D2, K0, K1, K2⟩ := q1 s8
  rw [n1 1 (by decide) (by decide) (by decide) (by decide)] at h1
  have l1 := K1.1
  have l2 := K2.1
  refine ⟨V1 r 5 0, m, Or.inr (Or.inr ⟨rfl, j1, j2, A0, A1, A2, l, D0, c0, D1, c1, D2, ?_, ?_, ?_⟩), h1, h2, ?_⟩
  · show K_seg (V' x 0) (mkv V' x k 2) (mkv V' x k 3) A0 19
    rw [n2 2 (by decide) (by decide) (by decide), n2 3 (by decide) (by decide) (by decide), w2]
    exact K_seg_c K0 (fun z _ z1 => sz z (by omega))
  · show K_seg (V' x 0) (mkv V' x k 3) (mkv V' x k 4) A1 19
    rw [n2 3 (by decide) (by decide) (by decide), n2 4 (by decide) (by decide) (by decide)]
    exact K_seg_c K1 (fun z _ z1 => sz z (by omega))
  · show K_seg (V' x 0) (mkv V' x k 4) (mkv V' x k 5) A2 19
    rw [n2 4 (by decide) (by decide) (by decide), n2 5 (by decide) (by decide) (by decide)]
    exact K_seg_c K2 (fun z _ z1 => sz z (by omega))
  · show mkv V' x k 5 ≤ V' x 2 0
    rw [n2 5 (by decide) (by decide) (by decide), w5]
    exact (g2.2.2.2.2 q).2.2.2.1
end QRG
section QRF
variable {V V' V1 V2 V3 V4 U W W' W1 : dV} {r x a i t c v o p N lev h u s k w y ns j κ : Int} {tk pl cd vl : Int → Int} {D d e : Nat}
theorem rc_open (h3 : V x 3 0 = k - 1) (k1 : 1 ≤ k) (k12 : k ≤ 12) : ∃ U, f_X10_openClause V x κ = (U, 0) ∧ U x 3 0 = k ∧ (∀ m z, m ≠ 1 → m ≠ 3 → U x m z = V x m z) ∧ (∀ b m z, b ≠ x → U b m z = V b m z) ∧ mkv U x k 0 = κ ∧ mkv U x k 1 = 1 ∧ ∀ z, ¬ ((k - 1) * 8 ≤ z ∧ z < k * 8) → U x 1 z = V x 1 z := by
  have s3 : dv_u V x 3 0 (k - 1 + 1) x 3 0 = k := by rw [u_e]; omega
  have s4 : dv_u (dv_u V x 3 0 (k - 1 + 1)) x 1 ((k - 1) * 8 + 0) κ x 3 0 = k := by rw [u_j (by decide), s3]
  refine ⟨dv_u (dv_u (dv_u V x 3 0 (k - 1 + 1)) x 1 ((k - 1) * 8 + 0) κ) x 1 ((k - 1) * 8 + 1) 1, ?_, ?_, fun m z n1 n3 => ?_, fun b m z hb => ?_, ?_, ?_, fun z hz => ?_⟩
  · unfold f_X10_openClause
    rw [bq, h3, if_pos (by omega), bq, bq, bq, dv_bn2 (c_setm s3 k1 k12 (by decide) (by decide)), dv_bn2 (c_setm s4 k1 k12 (by decide) (by decide))]
  · rw [u_j (by decide), s4]
  · rw [u_j n1, u_j n1, u_j n3]
  · rw [u_b hb, u_b hb, u_b hb]
  · show dv_u _ _ _ _ _ _ _ _ = _
    rw [mk_n (by decide), mk_e]
  · show dv_u _ _ _ _ _ _ _ _ = _
    rw [mk_e]
  · rw [u_i (by omega), u_i (by omega), u_j (by decide)]
/-- no clause -/
theorem c_clN (cx : rd_cx o tk pl V r x) (tb : -1 ≤ tk (V r 5 0) ∧ tk (V r 5 0) ≤ 1401) (hn : o = 0 ∧ ¬ (301 ≤ tk (V r 5 0) ∧ tk (V r 5 0) ≤ 303) ∨ o = 1 ∧ ¬ (304 ≤ tk (V r 5 0) ∧ tk (V r 5 0) ≤ 307)) : f_X5_readClause V r = ((f_X5_fail V r).1, 0) := by
  have c4 := cx.2.2.2.1
  have e47 : f_X5_readClause_47 V r = ((f_X5_fail V r).1, 0) := by
    unfold f_X5_readClause_47
    rw [bq2]
  unfold f_X5_readClause f_X5_readClause_25 f_X5_readClause_44
  rw [bq, bq, cx.1, bq]
  rcases hn with ⟨o0, hn⟩ | ⟨o1, hn⟩
  · rw [if_pos (by omega), bq, dv_sub_ok (by omega) (by omega) (by omega) (by omega) (by omega) (by omega)]
    by_cases e : tk (V r 5 0) - 301 < 0
    · rw [if_pos e, e47]
    · rw [if_neg e, bq, if_pos (by omega), if_neg (by omega), e47]
  · rw [if_neg (by omega), bq, dv_sub_ok (by omega) (by omega) (by omega) (by omega) (by omega) (by omega)]
    by_cases e : tk (V r 5 0) - 304 < 0
    · rw [if_pos e, e47]
    · rw [if_neg e, bq, if_neg (by omega), if_neg (by omega), e47]
/-- a clause of a law -/
theorem c_clL (cx : rd_cx o tk pl V r x) (o0 : o = 0) (h0 : 301 ≤ tk (V r 5 0)) (h1 : tk (V r 5 0) ≤ 303) (hU : f_X10_openClause (dv_u V r 5 0 (V r 5 0 + 1)) x (tk (V r 5 0) - 301) = (U, 0)) (u4 : U r 4 0 = o) : f_X5_readClause V r = f_X5_readClause_109 U r (if tk (V r 5 0) - 301 = 2 then 0 else 1) := by
  have c4 := cx.2.2.2.1
  unfold f_X5_readClause f_X5_readClause_25 f_X5_readClause_44
  rw [bq, bq, cx.1, bq, if_pos (by omega), bq, dv_sub_ok (by omega) (by omega) (by omega) (by omega) (by omega) (by omega), if_neg (by omega), bq, if_pos (by omega), if_pos (by omega), bq, bq, bq, bq, u_j (show (3 : Nat) ≠ 5 by decide), cx.2.2.1, dv_bn2 hU, bq, if_pos (by omega)]
  by_cases e : tk (V r 5 0) - 301 = 2
  · rw [if_neg (fun q => q e), if_pos e]
  · rw [if_pos e, if_neg e]
/-- a clause of orders -/
theorem c_clO (cx : rd_cx o tk pl V r x) (o1 : o = 1) (h0 : 304 ≤ tk (V r 5 0)) (h1 : tk (V r 5 0) ≤ 307) (hU : f_X10_openClause (dv_u V r 5 0 (V r 5 0 + 1)) x (tk (V r 5 0) - 304) = (U, 0)) (u4 : U r 4 0 = o) : f_X5_readClause V r = f_X5_readClause_109 U r (if tk (V r 5 0) - 304 = 0 then 3 else if tk (V r 5 0) - 304 = 1 then 1 else 0) := by
  have c4 := cx.2.2.2.1
  unfold f_X5_readClause f_X5_readClause_25 f_X5_readClause_44
  rw [bq, bq, cx.1, bq, if_neg (by omega), bq, dv_sub_ok (by omega) (by omega) (by omega) (by omega) (by omega) (by omega), if_neg (by omega), bq, if_neg (by omega), if_pos (by omega), bq, bq, bq, bq, u_j (show (3 : Nat) ≠ 5 by decide), cx.2.2.1, dv_bn2 hU, bq, if_neg (by omega)]
  by_cases e : tk (V r 5 0) - 304 = 0
  · rw [if_neg (fun q => q e), if_pos e]
  · rw [if_pos e, if_neg e]
    by_cases e1 : tk (V r 5 0) - 304 = 1
    · rw [if_neg (fun q => q e1), if_pos e1]
    · rw [if_pos e1, if_neg e1]
-- the reference's clause
theorem m_clL (kx : re_cx o cd vl pl W a) (o0 : o = 0) (w8 : W a 21 0 = -1) : f_X12_readOne W a = (if cd (W a 19 0) = 1 ∨ cd (W a 19 0) = 2 then (f_X12_readClause_16 (dv_u W a 19 0 (W a 19 0 + 1)) a).1 else (f_X12_readClause_29 (f_X12_must W a 3).1 a).1, 0) := by
  unfold f_X12_readOne f_X12_readClause
  rw [bq, kx.2.2.2.1, if_pos o0, bq2]
  by_cases e1 : cd (W a 19 0) = 1
  · rw [dv_bn2 (m_take1 kx w8 e1), if_pos (by decide), if_pos (Or.inl e1)]
  · rw [dv_bn2 (m_take0 kx (fun _ => e1)), if_neg (fun q => q rfl)]
    by_cases e2 : cd (W a 19 0) = 2
    · rw [dv_bn2 (m_take1 kx w8 e2), if_neg (by decide), if_pos (Or.inr e2)]
    · rw [dv_bn2 (m_take0 kx (fun _ => e2)), if_pos rfl, bq2, if_neg (by omega)]
end QRF
section QRE
variable {V V' V1 V2 V3 V4 U W W' W1 : dV} {r x a i t c v o p N lev h u s k w y ns j κ : Int} {tk pl cd vl : Int → Int} {D d e : Nat}
/-- the reader, its text, the number of clauses and the marks of clause k have changed -/
def kc_fr (k r x : Int) (V V' : dV) : Prop := ∀ b m z, ¬ (b = r ∧ (m = 5 ∨ m = 6 ∨ m = 7 ∨ m = 8)) → ¬ (b = x ∧ (m = 0 ∨ m = 2 ∨ m = 3)) → ¬ (b = x ∧ m = 1 ∧ (k - 1) * 8 ≤ z ∧ z < k * 8) → V' b m z = V b m z
/-- what was read from i to j as a clause whose marks are M -/
def cl_ok (o : Int) (cd vl : Int → Int) (i j : Int) (X M : Int → Int) (s : Int) : Prop := (o = 0 ∧ (0 ≤ M 0 ∧ M 0 ≤ 2) ∧ cd i = M 0 + 1 ∧ cl_bd o cd vl (if M 0 = 2 then 0 else 1) (i + 1) j 1 X M s) ∨ (o = 1 ∧ (0 ≤ M 0 ∧ M 0 ≤ 3) ∧ (cd i = if M 0 = 0 then 21 else 23 + M 0) ∧ cl_bd o cd vl (if M 0 = 0 then 3 else if M 0 = 1 then 1 else 0) (i + 1) j 1 X M s)
/-- its first word, and the clause is open -/
theorem rc_first (ts : rd_ts tk pl cd vl N) (hi : rd_in o tk pl cd vl N V W r x a) (h7 : V r 7 0 = 0) (h3 : V x 3 0 = k - 1) (k1 : 1 ≤ k) (k12 : k ≤ 12) (ht : tk (V r 5 0) ≠ -1) (κ : Int) : ∃ U, f_X10_openClause (dv_u V r 5 0 (V r 5 0 + 1)) x κ = (U, 0) ∧ rk_pre o tk pl cd vl N k U (dv_u W a 19 0 (W a 19 0 + 1)) r x a ∧ kc_fr k r x V U ∧ U r 5 0 = V r 5 0 + 1 ∧ U x 2 0 = V x 2 0 ∧ (∀ z, U x 0 z = V x 0 z) ∧ U r 4 0 = o ∧ U r 8 0 = -1 ∧ mkv U x k 0 = κ ∧ mkv U x k 1 = 1 := by
  obtain ⟨i1, p1, S1, q1⟩ := rd_iN hi ht
  obtain ⟨-, cx, kx, h8, w8, at0⟩ := id hi
  have c5 := cx.2.2.2.2.1
  have w1 := @rd_w1 (tk (V r 5 0))
  have F1 : rd_fr r x V (dv_u V r 5 0 (V r 5 0 + 1)) := rd_fr_u (by decide)
  have z5 : dv_u V r 5 0 (V r 5 0 + 1) r 5 0 = V r 5 0 + 1 := u_e
  have z6 : dv_u V r 5 0 (V r 5 0 + 1) r 6 0 = V r 6 0 := u_j (by decide)
  have z7 : dv_u V r 5 0 (V r 5 0 + 1) r 7 0 = V r 7 0 := u_j (by decide)
  have z8 : dv_u V r 5 0 (V r 5 0 + 1) r 8 0 = -1 := by rw [u_j (by decide), h8]
  have zx : ∀ m z, dv_u V r 5 0 (V r 5 0 + 1) x m z = V x m z := fun m z => u_b c5
  generalize dv_u V r 5 0 (V r 5 0 + 1) = V1 at F1 z5 z6 z7 z8 zx
  obtain ⟨U, e, u3, ux, ub, m0, m1, mz⟩ := rc_open (V := V1) (κ := κ) (by rw [zx]; exact h3) k1 k12
  have ur : ∀ m z, U r m z = V1 r m z := fun m z => ub r m z (Ne.symm c5)
  have cx1 := rd_cx_f cx F1
  obtain ⟨g1, g2, g3, g4, g5, g6⟩ := id cx1
  obtain ⟨b1, b2, b3, b4, b5, b6⟩ := at0
  have cxU : rd_cx o tk pl U r x := ⟨fun z => by rw [ur]; exact g1 z, fun z => by rw [ur]; exact g2 z, by rw [ur]; exact g3, by rw [ur]; exact g4, g5, g6⟩
  refine ⟨U, e, ⟨cxU, re_cx_f kx (re_fr_u (by decide)), by rw [ur, z7, h7], by rw [u_j (by decide), ur, z8, w8], fun _ => ⟨by rw [u_e, ur, z5, b1], by rw [ur, z5]; omega, by rw [u_j (by decide), ur, z6, b3], by rw [ur, z6]; exact b4, by rw [ux 2 0 (by decide) (by decide), zx]; exact b5, by rw [ux 2 0 (by decide) (by decide), zx, ur, z5]; omega⟩, u3⟩, fun b m z n1 n2 n3 => ?_, by rw [ur, z5], by rw [ux 2 0 (by decide) (by decide), zx], fun z => by rw [ux 0 z (by decide) (by decide), zx], by rw [ur]; exact g4, by rw [ur, z8], m0, m1⟩
  by_cases hb : b = x
  · subst hb
    by_cases h1 : m = 1
    · subst h1
      rw [mz z (fun q => n3 ⟨rfl, rfl, q⟩), zx]
    · rw [ux m z h1 (fun q => n2 ⟨rfl, Or.inr (Or.inr q)⟩), zx]
  · rw [ub b m z hb]
    exact F1 b m z n1 (fun q => hb q.1)
theorem kc_fr_g (f : kc_fr k r x V U) (g : rk_fr k r x U V') : kc_fr k r x V V' := fun b m z n1 n2 n3 => (g b m z n1 (fun q => n2 ⟨q.1, q.2.elim Or.inl (fun z => Or.inr (Or.inl z))⟩) n3).trans (f b m z n1 n2 n3)
/-- both have read a clause -/
def rc_out (o : Int) (pl cd vl : Int → Int) (N k : Int) (V W : dV) (r x a : Int) (V' W' : dV) : Prop := kc_fr k r x V V' ∧ re_fr a W W' ∧ V' r 7 0 = 0 ∧ W' a 21 0 = V' r 8 0 ∧ (V' r 8 0 = -1 → V' x 3 0 = k ∧ rd_at pl N V' W' r x a ∧ V r 5 0 < V' r 5 0 ∧ V x 2 0 ≤ V' x 2 0 ∧ (∀ z, z < V x 2 0 → V' x 0 z = V x 0 z) ∧ cl_ok o cd vl (V r 5 0) (V' r 5 0) (V' x 0) (fun w => mkv V' x k w) (V' x 2 0))
theorem rc_outg (hp : rk_pre o tk pl cd vl N k U W1 r x a) (fU : kc_fr k r x V U) (gW : re_fr a W W1) (u5 : U r 5 0 = V r 5 0 + 1) (u2 : U x 2 0 = V x 2 0) (u0 : ∀ z, U x 0 z = V x 0 z) (g : rk_go pl N k U W1 r x a V' W') (hK : V' r 8 0 = -1 → cl_ok o cd vl (V r 5 0) (V' r 5 0) (V' x 0) (fun w => mkv V' x k w) (V' x 2 0)) : rc_out o pl cd vl N k V W r x a V' W' := by
  obtain ⟨g1, g2, g3, g4, g5⟩ := id g
  refine ⟨kc_fr_g fU g1, re_fr_t gW g2, g3.trans hp.2.2.1, g4, fun q => ?_⟩
  obtain ⟨l1, l2, l3, l4, l5, l6⟩ := g5 q
  exact ⟨(rk_pre_g hp g).2.2.2.2.2, l2, by omega, by omega, fun z hz => by rw [l6 z (by omega), u0], hK q⟩
/-- a clause of a law is read the same way -/
theorem rc_clL (ts : rd_ts tk pl cd vl N) (o0 : o = 0) (hi : rd_in o tk pl cd vl N V W r x a) (h7 : V r 7 0 = 0) (h3 : V x 3 0 = k - 1) (k1 : 1 ≤ k) (k12 : k ≤ 12) : ∃ (V' W' : dV), f_X5_readClause V r = (V', 0) ∧ f_X12_readOne W a = (W', 0) ∧ rc_out o pl cd vl N k V W r x a V' W' := by
  obtain ⟨T1, T2⟩ := rd_tT hi
  obtain ⟨-, cx, kx, h8, w8, at0⟩ := id hi
  have em := m_clL kx o0 w8
  have tb := tk_bd T1
  by_cases hv : 301 ≤ tk (V r 5 0) ∧ tk (V r 5 0) ≤ 303
  · have hc : cd (V r 5 0) = tk (V r 5 0) - 300 := by unfold rd_tk rd_wp at T1; omega
    obtain ⟨U, eU, pU, fU, u5, u2, u0, u4, u8, m0, m1⟩ := rc_first ts hi h7 h3 k1 k12 (by omega) (tk (V r 5 0) - 301)
    have e1 := c_clL cx o0 hv.1 hv.2 eU u4
    by_cases e2 : tk (V r 5 0) - 301 = 2
    · rw [if_pos e2] at e1
      obtain ⟨V', W', e3, f3, -, g, n0, q⟩ := rc_b0 ts pU k1 k12
      rw [if_neg (by rw [at0.1]; omega), m_must1 kx w8 (by rw [at0.1]; omega)] at em
      dsimp only at em
      rw [f3 o0] at em
      refine ⟨V', W', e1.trans e3, em, rc_outg pU fU (re_fr_u (by decide)) u5 u2 u0 g (fun z => Or.inl ⟨o0, ?_, ?_, ?_⟩)⟩
      · show 0 ≤ mkv V' x k 0 ∧ mkv V' x k 0 ≤ 2
        rw [n0, m0]; omega
      · show cd (V r 5 0) = mkv V' x k 0 + 1
        rw [n0, m0]; omega
      · show cl_bd o cd vl (if mkv V' x k 0 = 2 then 0 else 1) _ _ _ _ _ _
        have qz := q z
        rw [u5, m1] at qz
        rw [n0, m0, if_pos e2]
        exact qz
    · rw [if_neg e2] at e1
      obtain ⟨V', W1, y1, W', e3, f2, f3, -, g, n0, q⟩ := rc_b1 ts pU k1 k12
      rw [if_pos (by rw [at0.1]; omega)] at em
      unfold f_X12_readClause_16 at em
      rw [dv_bn2 f2, f3 o0] at em
      refine ⟨V', W', e1.trans e3, em, rc_outg pU fU (re_fr_u (by decide)) u5 u2 u0 g (fun z => Or.inl ⟨o0, ?_, ?_, ?_⟩)⟩
      · show 0 ≤ mkv V' x k 0 ∧ mkv V' x k 0 ≤ 2
        rw [n0, m0]; omega
      · show cd (V r 5 0) = mkv V' x k 0 + 1
        rw [n0, m0]; omega
      · show cl_bd o cd vl (if mkv V' x k 0 = 2 then 0 else 1) _ _ _ _ _ _
        have qz := q z
        rw [u5, m1] at qz
        rw [n0, m0, if_neg e2]
        exact qz
  · have e1 := c_clN cx tb (Or.inl ⟨o0, hv⟩)
    rw [c_fail cx h8] at e1
    have hc : cd (V r 5 0) ≠ 1 ∧ cd (V r 5 0) ≠ 2 ∧ cd (V r 5 0) ≠ 3 := by unfold rd_tk rd_wp at T1; omega
    rw [if_neg (by rw [at0.1]; omega), m_must0 kx w8 (by rw [at0.1]; omega), at0.1] at em
    dsimp only at em
    have e29 : f_X12_readClause_29 (dv_u W a 21 0 (pl (V r 5 0))) a = (dv_u W a 21 0 (pl (V r 5 0)), 0) := by
      unfold f_X12_readClause_29
      rw [dv_bn2 (m_take0 (re_cx_f kx (re_fr_u (by decide))) (fun q => by rw [u_e] at q; omega)), if_pos rfl]
    rw [e29] at em
    refine ⟨_, _, e1, em, fun b m z n1 n2 n3 => ?_, re_fr_u (by decide), by show dv_u _ _ _ _ _ _ _ _ = _; rw [u_j (by decide), h7], by show dv_u _ _ _ _ _ _ _ _ = dv_u _ _ _ _ _ _ _ _; rw [u_e, u_e], fun q => ?_⟩
    · exact rd_fr_u (x := x) (by decide) b m z n1 (fun q => n2 ⟨q.1, q.2.elim Or.inl (fun z => Or.inr (Or.inl z))⟩)
    · have q' : dv_u V r 8 0 (pl (V r 5 0)) r 8 0 = -1 := q
      rw [u_e] at q'
      omega
end QRE
section QRW
variable {V V' V1 V2 V3 V4 U W W' W1 W2 W3 : dV} {r x a i t c v o p N lev h u s k w y y1 ns j κ : Int} {tk pl cd vl : Int → Int} {D d e : Nat}
-- the reference's clause of orders
theorem m_clO (kx : re_cx o cd vl pl W a) (o1 : o = 1) {X : dV × Int} (h : f_X12_readOrder W a = X) : f_X12_readOne W a = (X.1, 0) := by
  unfold f_X12_readOne
  rw [bq, kx.2.2.2.1, if_neg (by omega), bq2, h]
theorem m_or0 (kx : re_cx o cd vl pl W a) (w8 : W a 21 0 = -1) (hc : cd (W a 19 0) = 21) (e1 : f_X12_readSum 8 (dv_u W a 19 0 (W a 19 0 + 1)) a 0 = (W1, y1)) (e2 : f_X12_readMore W1 a 22 = (W2, 0)) (e3 : f_X12_readMore W2 a 23 = (W3, 0)) : f_X12_readOrder W a = f_X12_readOrder_61 W3 a := by
  unfold f_X12_readOrder
  rw [dv_bn2 (m_take1 kx w8 hc), if_neg (by decide), dv_bn2 e1, dv_bn2 e2, dv_bn2 e3]
theorem m_or1 (kx : re_cx o cd vl pl W a) (w8 : W a 21 0 = -1) (hc : cd (W a 19 0) = 24) (e1 : f_X12_readSum 8 (dv_u W a 19 0 (W a 19 0 + 1)) a 0 = (W1, y1)) : f_X12_readOrder W a = f_X12_readOrder_61 W1 a := by
  unfold f_X12_readOrder
  rw [dv_bn2 (m_take0 kx (fun _ => by omega)), if_pos rfl, dv_bn2 (m_take1 kx w8 hc), if_neg (by decide), dv_bn2 e1]
theorem m_or2 (kx : re_cx o cd vl pl W a) (w8 : W a 21 0 = -1) (hc : cd (W a 19 0) = 25 ∨ cd (W a 19 0) = 26) : f_X12_readOrder W a = f_X12_readOrder_61 (dv_u W a 19 0 (W a 19 0 + 1)) a := by
  unfold f_X12_readOrder
  rw [dv_bn2 (m_take0 kx (fun _ => by omega)), if_pos rfl, dv_bn2 (m_take0 kx (fun _ => by omega)), if_pos rfl]
  rcases hc with hc | hc
  · rw [dv_bn2 (m_take1 kx w8 hc), if_pos (by decide)]
  · rw [dv_bn2 (m_take0 kx (fun _ => by omega)), if_neg (fun q => q rfl), dv_bn2 (m_must1 kx w8 hc)]
theorem m_orN (kx : re_cx o cd vl pl W a) (w8 : W a 21 0 = -1) (hc : cd (W a 19 0) ≠ 21 ∧ cd (W a 19 0) ≠ 24 ∧ cd (W a 19 0) ≠ 25 ∧ cd (W a 19 0) ≠ 26) (hp : pl (W a 19 0) ≠ -1) : f_X12_readOrder W a = (dv_u W a 21 0 (pl (W a 19 0)), 0) := by
  have k2 : re_cx o cd vl pl (dv_u W a 21 0 (pl (W a 19 0))) a := re_cx_f kx (re_fr_u (by decide))
  have n2 : dv_u W a 21 0 (pl (W a 19 0)) a 21 0 ≠ -1 := by rw [u_e]; exact hp
  unfold f_X12_readOrder f_X12_readOrder_61 f_X12_readOrder_77
  rw [dv_bn2 (m_take0 kx (fun _ => hc.1)), if_pos rfl, dv_bn2 (m_take0 kx (fun _ => hc.2.1)), if_pos rfl, dv_bn2 (m_take0 kx (fun _ => hc.2.2.1)), if_neg (fun q => q rfl), dv_bn2 (m_must0 kx w8 hc.2.2.2), dv_bn2 (m_take0 k2 (fun q => absurd q n2)), if_pos rfl, dv_bn2 (m_take0 k2 (fun q => absurd q n2)), if_pos rfl]
/-- a clause of orders is read the same way -/
theorem rc_clO (ts : rd_ts tk pl cd vl N) (o1 : o = 1) (hi : rd_in o tk pl cd vl N V W r x a) (h7 : V r 7 0 = 0) (h3 : V x 3 0 = k - 1) (k1 : 1 ≤ k) (k12 : k ≤ 12) : ∃ (V' W' : dV), f_X5_readClause V r = (V', 0) ∧ f_X12_readOne W a = (W', 0) ∧ rc_out o pl cd vl N k V W r x a V' W' := by
  obtain ⟨T1, T2⟩ := rd_tT hi
  obtain ⟨-, cx, kx, h8, w8, at0⟩ := id hi
  have tb := tk_bd T1
  by_cases hv : 304 ≤ tk (V r 5 0) ∧ tk (V r 5 0) ≤ 307
  · obtain ⟨U, eU, pU, fU, u5, u2, u0, u4, u8, m0, m1⟩ := rc_first ts hi h7 h3 k1 k12 (by omega) (tk (V r 5 0) - 304)
    have e1 := c_clO cx o1 hv.1 hv.2 eU u4
    -- what is left to tell of a clause
    have FIN : ∀ {V' W' : dV} {ns : Int}, rk_go pl N k U (dv_u W a 19 0 (W a 19 0 + 1)) r x a V' W' → mkv V' x k 0 = mkv U x k 0 → (V' r 8 0 = -1 → cl_bd o cd vl ns (U r 5 0) (V' r 5 0) (mkv U x k 1) (V' x 0) (fun w => mkv V' x k w) (V' x 2 0)) → ns = (if tk (V r 5 0) - 304 = 0 then 3 else if tk (V r 5 0) - 304 = 1 then 1 else 0) → (cd (V r 5 0) = if tk (V r 5 0) - 304 = 0 then 21 else 23 + (tk (V r 5 0) - 304)) → rc_out o pl cd vl N k V W r x a V' W' := by
      intro V' W' ns g n0 q hns hcd
      refine rc_outg pU fU (re_fr_u (by decide)) u5 u2 u0 g (fun z => Or.inr ⟨o1, ?_, ?_, ?_⟩)
      · show 0 ≤ mkv V' x k 0 ∧ mkv V' x k 0 ≤ 3
        rw [n0, m0]; omega
      · show cd (V r 5 0) = if mkv V' x k 0 = 0 then 21 else 23 + mkv V' x k 0
        rw [n0, m0]; exact hcd
      · show cl_bd o cd vl (if mkv V' x k 0 = 0 then 3 else if mkv V' x k 0 = 1 then 1 else 0) _ _ _ _ _ _
        have qz := q z
        rw [u5, m1, hns] at qz
        rw [n0, m0]
        exact qz
    by_cases e0 : tk (V r 5 0) - 304 = 0
    · rw [if_pos e0] at e1
      have hc : cd (V r 5 0) = 21 := by unfold rd_tk rd_wp at T1; omega
      obtain ⟨V', W1, y1, W2, W3, W', e3, f1, f2, f3, f4, g, n0, q⟩ := rc_b3 ts pU k1 k12
      have em := m_clO kx o1 ((m_or0 kx w8 (by rw [at0.1]; exact hc) f1 f2 f3).trans (f4 o1))
      exact ⟨V', W', e1.trans e3, em, FIN g n0 q (by rw [if_pos e0]) (by rw [if_pos e0]; exact hc)⟩
    · rw [if_neg e0] at e1
      by_cases e2 : tk (V r 5 0) - 304 = 1
      · rw [if_pos e2] at e1
        have hc : cd (V r 5 0) = 24 := by unfold rd_tk rd_wp at T1; omega
        obtain ⟨V', W1, y1, W', e3, f1, -, f4, g, n0, q⟩ := rc_b1 ts pU k1 k12
        have em := m_clO kx o1 ((m_or1 kx w8 (by rw [at0.1]; exact hc) f1).trans (f4 o1))
        exact ⟨V', W', e1.trans e3, em, FIN g n0 q (by rw [if_neg e0, if_pos e2]) (by rw [if_neg e0, e2]; omega)⟩
      · rw [if_neg e2] at e1
        have hc : cd (V r 5 0) = tk (V r 5 0) - 281 := by unfold rd_tk rd_wp at T1; omega
        obtain ⟨V', W', e3, -, f4, g, n0, q⟩ := rc_b0 ts pU k1 k12
        have em := m_clO kx o1 ((m_or2 kx w8 (by rw [at0.1]; omega)).trans (f4 o1))
        exact ⟨V', W', e1.trans e3, em, FIN g n0 q (by rw [if_neg e0, if_neg e2]) (by rw [if_neg e0]; omega)⟩
  · have e1 := c_clN cx tb (Or.inr ⟨o1, hv⟩)
    rw [c_fail cx h8] at e1
    have hc : cd (V r 5 0) ≠ 21 ∧ cd (V r 5 0) ≠ 24 ∧ cd (V r 5 0) ≠ 25 ∧ cd (V r 5 0) ≠ 26 := by unfold rd_tk rd_wp at T1; omega
    have em := m_clO kx o1 (m_orN kx w8 (by rw [at0.1]; exact hc) (by rw [at0.1]; omega))
    rw [at0.1] at em
    refine ⟨_, _, e1, em, fun b m z n1 n2 n3 => ?_, re_fr_u (by decide), by show dv_u _ _ _ _ _ _ _ _ = _; rw [u_j (by decide), h7], by show dv_u _ _ _ _ _ _ _ _ = dv_u _ _ _ _ _ _ _ _; rw [u_e, u_e], fun q => ?_⟩
    · exact rd_fr_u (x := x) (by decide) b m z n1 (fun q => n2 ⟨q.1, q.2.elim Or.inl (fun z => Or.inr (Or.inl z))⟩)
    · have q' : dv_u V r 8 0 (pl (V r 5 0)) r 8 0 = -1 := q
      rw [u_e] at q'
      omega
end QRW
section QSA
variable {V V' V1 V2 U W W' W1 W2 : dV} {r x a i t c v o p N k s s' b j : Int} {tk pl cd vl X X' M M' : Int → Int}
theorem cl_bd_c {ns t0 : Int} (h : cl_bd o cd vl ns i j t0 X M s) (hX : ∀ z, z < s → X' z = X z) (hM : ∀ w, 0 ≤ w → w < 8 → M' w = M w) (hs : s ≤ s') : cl_bd o cd vl ns i j t0 X' M' s' := by
  obtain ⟨m, m', h1, h2, ⟨h3, h4⟩, h5⟩ := h
  have e1 := hM 1 (by decide) (by decide)
  have e2 := hM 2 (by decide) (by decide)
  have e3 := hM 3 (by decide) (by decide)
  have e4 := hM 4 (by decide) (by decide)
  have e5 := hM 5 (by decide) (by decide)
  have e6 := hM 6 (by decide) (by decide)
  have e7 := hM 7 (by decide) (by decide)
  refine ⟨m, m', ?_, by rw [e1]; exact h2, ⟨?_, by rw [e7]; omega⟩, by rw [e5]; omega⟩
  · rw [e2, e3, e4, e5]
    rcases h1 with ⟨a1, a2, a3, a4, a5⟩ | ⟨a1, a2, a3, a4, A, a5, a6⟩ | ⟨a1, j1, j2, A0, A1, A2, l, D0, c0, D1, c1, D2, K0, K1, K2⟩
    · exact Or.inl ⟨a1, a2, a3, a4, a5⟩
    · exact Or.inr (Or.inl ⟨a1, a2, a3, a4, A, a5, K_seg_c a6 (fun z _ z1 => hX z (by omega))⟩)
    · have l1 := K1.1
      have l2 := K2.1
      exact Or.inr (Or.inr ⟨a1, j1, j2, A0, A1, A2, l, D0, c0, D1, c1, D2, K_seg_c K0 (fun z _ z1 => hX z (by omega)), K_seg_c K1 (fun z _ z1 => hX z (by omega)), K_seg_c K2 (fun z _ z1 => hX z (by omega))⟩)
  · rw [e6, e7]
    rcases h3 with h3 | ⟨b1, b2, T, b3, b4⟩
    · exact Or.inl h3
    · exact Or.inr ⟨b1, b2, T, b3, K_seg_c b4 (fun z _ z1 => hX z (by omega))⟩
theorem cl_ok_c (h : cl_ok o cd vl i j X M s) (hX : ∀ z, z < s → X' z = X z) (hM : ∀ w, 0 ≤ w → w < 8 → M' w = M w) (hs : s ≤ s') : cl_ok o cd vl i j X' M' s' := by
  have e0 := hM 0 (by decide) (by decide)
  rcases h with ⟨a1, a2, a3, a4⟩ | ⟨a1, a2, a3, a4⟩
  · exact Or.inl ⟨a1, by rw [e0]; exact a2, by rw [e0]; exact a3, by rw [e0]; exact cl_bd_c a4 hX hM hs⟩
  · exact Or.inr ⟨a1, by rw [e0]; exact a2, by rw [e0]; exact a3, by rw [e0]; exact cl_bd_c a4 hX hM hs⟩
/-- n clauses, each with its ';', end before token i -/
def tx_c (o : Int) (cd vl X M : Int → Int) (s : Int) : Nat → Int → Prop
  | 0, i => i = 0
  | n + 1, i => ∃ b e, tx_c o cd vl X M s n b ∧ b < e ∧ cl_ok o cd vl b e X (fun w => M ((n : Int) * 8 + w)) s ∧ cd e = 159 ∧ i = e + 1
/-- n clauses are the whole text of N tokens -/
def tx_ok (o : Int) (cd vl X M : Int → Int) (s N n : Int) : Prop := ∃ (m : Nat) (b : Int), n = (m : Int) + 1 ∧ m ≤ 11 ∧ tx_c o cd vl X M s m b ∧ b < N ∧ cl_ok o cd vl b N X (fun w => M ((m : Int) * 8 + w)) s
theorem tx_c_c {n : Nat} (hX : ∀ z, z < s → X' z = X z) (hM : ∀ z, 0 ≤ z → z < (n : Int) * 8 → M' z = M z) (hs : s ≤ s') : ∀ {i : Int}, tx_c o cd vl X M s n i → tx_c o cd vl X' M' s' n i := by
  induction n with
  | zero => exact fun h => h
  | succ n ih =>
    rintro i ⟨b, e, h1, h2, h3, h4, h5⟩
    exact ⟨b, e, ih (fun z z0 z1 => hM z z0 (by omega)) h1, h2, cl_ok_c h3 hX (fun w w0 w1 => hM _ (by omega) (by omega)) hs, h4, h5⟩
theorem tx_c_0 {n : Nat} : ∀ {i : Int}, tx_c o cd vl X M s n i → 0 ≤ i := by
  induction n with
  | zero => intro i h; have h : i = 0 := h; omega
  | succ n ih =>
    rintro i ⟨b, e, h1, h2, h3, h4, h5⟩
    have := ih h1
    omega
theorem tx_ok_c {n : Int} (hX : ∀ z, z < s → X' z = X z) (hM : ∀ z, 0 ≤ z → z < n * 8 → M' z = M z) (hs : s ≤ s') (h : tx_ok o cd vl X M s N n) : tx_ok o cd vl X' M' s' N n := by
  obtain ⟨m, b, h1, h2, h3, h4, h5⟩ := h
  exact ⟨m, b, h1, h2, tx_c_c hX (fun z z0 z1 => hM z z0 (by omega)) hs h3, h4, cl_ok_c h5 hX (fun w w0 w1 => hM _ (by omega) (by omega)) hs⟩
theorem rc_cl (ts : rd_ts tk pl cd vl N) (hi : rd_in o tk pl cd vl N V W r x a) (h7 : V r 7 0 = 0) (h3 : V x 3 0 = k - 1) (k1 : 1 ≤ k) (k12 : k ≤ 12) : ∃ (V' W' : dV), f_X5_readClause V r = (V', 0) ∧ f_X12_readOne W a = (W', 0) ∧ rc_out o pl cd vl N k V W r x a V' W' := by
  rcases hi.2.1.2.2.2.2.2 with o0 | o1
  · exact rc_clL ts o0 hi h7 h3 k1 k12
  · exact rc_clO ts o1 hi h7 h3 k1 k12
def rd_ff (r x : Int) (V V' : dV) : Prop := ∀ b m z, ¬ (b = r ∧ (m = 5 ∨ m = 6 ∨ m = 7 ∨ m = 8)) → ¬ (b = x ∧ m ≤ 3) → V' b m z = V b m z
def re_ff (a : Int) (W W' : dV) : Prop := ∀ b m z, ¬ (b = a ∧ (m = 14 ∨ m = 19 ∨ m = 20 ∨ m = 21)) → W' b m z = W b m z
theorem rd_ff_t (h : rd_ff r x V V') (h1 : rd_ff r x V' V1) : rd_ff r x V V1 := fun b j z k k1 => (h1 b j z k k1).trans (h b j z k k1)
theorem re_ff_t (h : re_ff a W W') (h1 : re_ff a W' W1) : re_ff a W W1 := fun b j z k => (h1 b j z k).trans (h b j z k)
theorem rd_ff_k (h : kc_fr k r x V V') : rd_ff r x V V' := fun b m z n1 n2 => h b m z n1 (fun q => n2 ⟨q.1, by omega⟩) (fun q => n2 ⟨q.1, by omega⟩)
theorem rd_ff_d (h : rd_fr r x V V') : rd_ff r x V V' := fun b m z n1 n2 => h b m z n1 (fun q => n2 ⟨q.1, by omega⟩)
theorem re_ff_d (h : re_fr a W W') : re_ff a W W' := fun b m z n => h b m z (fun q => n ⟨q.1, by omega⟩)
theorem re_ff_14 {y : Int} : re_ff a W (dv_u W a 14 0 y) := fun b m z n => by
  unfold dv_u
  rw [if_neg (fun e => n ⟨e.1, Or.inl e.2.1⟩)]
-- the reference's loop
theorem m_34_end (kx : re_cx o cd vl pl W a) (w8 : W a 21 0 = -1) (hc : cd (W a 19 0) ≠ 100 + 59) (he : W a 18 0 ≤ W a 19 0) : dv_lp f_X12_reads_34b (W, a, j) = (dv_u W a 14 0 (-1), 1) := by
  refine dv_lp_e ?_
  rw [f_X12_reads_34e]
  unfold f_X12_reads_34c
  rw [dv_bn2 q_sign, dv_bn2 (m_take0 kx (fun _ => hc)), if_pos rfl, dv_bn2 (m_fine1 w8), if_neg (by decide), bq, bq, if_pos he, bq, w8, bq, dv_bn2 (m_fine1 (by rw [u_j (by decide)]; exact w8))]
theorem m_34_bad (kx : re_cx o cd vl pl W a) (w8 : W a 21 0 = -1) (hc : cd (W a 19 0) ≠ 100 + 59) (he : W a 19 0 < W a 18 0) (hp : pl (W a 19 0) ≠ -1) : dv_lp f_X12_reads_34b (W, a, j) = (dv_u (dv_u W a 21 0 (pl (W a 19 0))) a 14 0 (pl (W a 19 0)), 0) := by
  refine dv_lp_e ?_
  rw [f_X12_reads_34e]
  unfold f_X12_reads_34c
  rw [dv_bn2 q_sign, dv_bn2 (m_take0 kx (fun _ => hc)), if_pos rfl, dv_bn2 (m_fine1 w8), if_neg (by decide), bq, bq, if_neg (by omega), dv_bn2 (m_faults kx w8), bq, u_e, bq, dv_bn2 (m_fine0 (by rw [u_j (by decide), u_e]; exact hp))]
theorem m_34_f (kx : re_cx o cd vl pl W a) (w8 : W a 21 0 ≠ -1) : dv_lp f_X12_reads_34b (W, a, j) = (dv_u W a 14 0 (W a 21 0), 0) := by
  refine dv_lp_e ?_
  rw [f_X12_reads_34e]
  unfold f_X12_reads_34c
  rw [dv_bn2 q_sign, dv_bn2 (m_take0 kx (fun q => absurd q w8)), if_pos rfl, dv_bn2 (m_fine0 w8), if_pos rfl, bq, bq, dv_bn2 (m_fine0 (by rw [u_j (by decide)]; exact w8))]
theorem m_34_on (kx : re_cx o cd vl pl W a) (w8 : W a 21 0 = -1) (hc : cd (W a 19 0) = 100 + 59) (j1 : 1 ≤ j) (j11 : j ≤ 11) (hr : f_X12_readOne (dv_u W a 19 0 (W a 19 0 + 1)) a = (W1, 0)) : dv_lp f_X12_reads_34b (W, a, j) = dv_lp f_X12_reads_34b (W1, a, j + 1) := by
  refine dv_lp_s ?_
  rw [f_X12_reads_34e]
  unfold f_X12_reads_34c
  rw [dv_bn2 q_sign, dv_bn2 (m_take1 kx w8 hc), if_neg (by decide), if_pos (show j ≠ 12 by omega), dv_bn2 (m_fine1 (by rw [u_j (by decide)]; exact w8)), if_neg (by decide), dv_bn2 hr, dv_add_ok (by omega) (by omega) (by omega) (by omega) (by omega) (by omega), bq]
theorem m_34_12 (kx : re_cx o cd vl pl W a) (w8 : W a 21 0 = -1) (hc : cd (W a 19 0) = 100 + 59) (hp : pl (W a 19 0 + 1) ≠ -1) : dv_lp f_X12_reads_34b (W, a, 12) = (dv_u (dv_u (dv_u W a 19 0 (W a 19 0 + 1)) a 21 0 (pl (W a 19 0 + 1))) a 14 0 (pl (W a 19 0 + 1)), 0) := by
  have k1 : re_cx o cd vl pl (dv_u W a 19 0 (W a 19 0 + 1)) a := re_cx_f kx (re_fr_u (by decide))
  have ef := m_faults k1 (by rw [u_j (by decide)]; exact w8)
  rw [u_e] at ef
  have k2 : re_cx o cd vl pl (dv_u (dv_u W a 19 0 (W a 19 0 + 1)) a 21 0 (pl (W a 19 0 + 1))) a := re_cx_f k1 (re_fr_u (by decide))
  have n2 : dv_u (dv_u W a 19 0 (W a 19 0 + 1)) a 21 0 (pl (W a 19 0 + 1)) a 21 0 ≠ -1 := by rw [u_e]; exact hp
  have h := m_34_f (j := 13) k2 n2
  rw [u_e] at h
  rw [← h]
  refine dv_lp_s ?_
  rw [f_X12_reads_34e]
  unfold f_X12_reads_34c
  rw [dv_bn2 q_sign, dv_bn2 (m_take1 kx w8 hc), if_neg (by decide), if_neg (fun q => q rfl), dv_bn2 ef, dv_bn2 (m_fine0 n2), if_pos rfl, bq]
  rfl
-- the class's loop
theorem c_49_f (cx : rd_cx o tk pl V1 r x) (h8 : V r 8 0 = -1) (c11 : c ≤ 11) (hr : f_X5_readClause V r = (V1, 0)) (n8 : V1 r 8 0 ≠ -1) : dv_lp f_X5_read_49b (V, r, c) = (V1, V1 r 8 0) := by
  refine dv_lp_e ?_
  rw [f_X5_read_49e]
  unfold f_X5_read_49c
  rw [if_neg (by omega), bq, if_neg (fun q => q h8), dv_bn2 hr, dv_bn2 (c_take0 cx (fun q => absurd q n8)), if_neg (fun q => q rfl), bq, bq]
  by_cases e : V1 r 0 (V1 r 5 0) = -1
  · rw [if_pos e, bq]
  · rw [if_neg e, dv_bn2 (c_fail_f n8), bq]
theorem c_49_end (cx : rd_cx o tk pl V1 r x) (h8 : V r 8 0 = -1) (c11 : c ≤ 11) (hr : f_X5_readClause V r = (V1, 0)) (n8 : V1 r 8 0 = -1) (ht : tk (V1 r 5 0) = -1) : dv_lp f_X5_read_49b (V, r, c) = (V1, -1) := by
  refine dv_lp_e ?_
  rw [f_X5_read_49e]
  unfold f_X5_read_49c
  rw [if_neg (by omega), bq, if_neg (fun q => q h8), dv_bn2 hr, dv_bn2 (c_take0 cx (fun _ => by rw [ht]; decide)), if_neg (fun q => q rfl), bq, bq, cx.1, if_pos ht, bq, n8]
theorem c_49_bad (cx : rd_cx o tk pl V1 r x) (h8 : V r 8 0 = -1) (c11 : c ≤ 11) (hr : f_X5_readClause V r = (V1, 0)) (n8 : V1 r 8 0 = -1) (ht : tk (V1 r 5 0) ≠ -1) (hs : tk (V1 r 5 0) ≠ 59) : dv_lp f_X5_read_49b (V, r, c) = (dv_u V1 r 8 0 (pl (V1 r 5 0)), pl (V1 r 5 0)) := by
  refine dv_lp_e ?_
  rw [f_X5_read_49e]
  unfold f_X5_read_49c
  rw [if_neg (by omega), bq, if_neg (fun q => q h8), dv_bn2 hr, dv_bn2 (c_take0 cx (fun _ => hs)), if_neg (fun q => q rfl), bq, bq, cx.1, if_neg ht, dv_bn2 (c_fail cx n8), bq, u_e]
theorem c_49_on (cx : rd_cx o tk pl V1 r x) (h8 : V r 8 0 = -1) (c11 : c ≤ 11) (hr : f_X5_readClause V r = (V1, 0)) (n8 : V1 r 8 0 = -1) (ht : tk (V1 r 5 0) = 59) : dv_lp f_X5_read_49b (V, r, c) = dv_lp f_X5_read_49b (dv_u V1 r 5 0 (V1 r 5 0 + 1), r, c + 1) := by
  refine dv_lp_s ?_
  rw [f_X5_read_49e]
  unfold f_X5_read_49c
  rw [if_neg (by omega), bq, if_neg (fun q => q h8), dv_bn2 hr, dv_bn2 (c_take1 cx n8 ht), if_pos (by decide), bq]
theorem c_49_12 (cx : rd_cx o tk pl V r x) (h8 : V r 8 0 = -1) (c12 : 12 ≤ c) : dv_lp f_X5_read_49b (V, r, c) = (dv_u V r 8 0 (pl (V r 5 0)), pl (V r 5 0)) := by
  refine dv_lp_e ?_
  rw [f_X5_read_49e]
  unfold f_X5_read_49c
  rw [if_pos c12]
  unfold f_X5_read_105
  rw [dv_bn2 (c_fail cx h8), bq, u_e]
/-- what both have when a text is read -/
def rr_out (o : Int) (cd vl : Int → Int) (N : Int) (V W : dV) (r x a : Int) (V' : dV) (y : Int) (W' : dV) (y' : Int) : Prop := rd_ff r x V V' ∧ re_ff a W W' ∧ V' r 8 0 = y ∧ W' a 14 0 = y ∧ ((y = -1 ∧ y' = 1 ∧ 0 ≤ V' x 2 0 ∧ tx_ok o cd vl (V' x 0) (V' x 1) (V' x 2 0) N (V' x 3 0)) ∨ (y ≠ -1 ∧ y' = 0))
def rr_P (o : Int) (tk pl cd vl : Int → Int) (N r x a : Int) (n : Nat) : Prop := ∀ (m : Nat) (V W : dV), m + n = 11 → rd_in o tk pl cd vl N V W r x a → V r 7 0 = 0 → V x 3 0 = (m : Int) → W a 18 0 = N → tx_c o cd vl (V x 0) (V x 1) (V x 2 0) m (V r 5 0) → ∃ (V' : dV) (y : Int) (W1 W' : dV) (y' : Int), dv_lp f_X5_read_49b (V, r, (m : Int)) = (V', y) ∧ f_X12_readOne W a = (W1, 0) ∧ dv_lp f_X12_reads_34b (W1, a, (m : Int) + 1) = (W', y') ∧ rr_out o cd vl N V W r x a V' y W' y'
theorem rr_S (ts : rd_ts tk pl cd vl N) (n : Nat) (ih : ∀ n', n = n' + 1 → rr_P o tk pl cd vl N r x a n') : rr_P o tk pl cd vl N r x a n := by
  intro m V W hm hi h7 h3 h18 hT
  obtain ⟨V1, W1, e1, e2, g1, g2, g7, g8, g9⟩ := rc_cl (k := (m : Int) + 1) ts hi h7 (by omega) (by omega) (by omega)
  obtain ⟨-, cx, kx, h8, w8, at0⟩ := id hi
  have c5 := cx.2.2.2.2.1
  have F1 := rd_ff_k g1
  have G1 := re_ff_d g2
  have k1 := re_cx_f kx g2
  have cx1 : rd_cx o tk pl V1 r x := by
    obtain ⟨h1, h2, h3, h4, h5, h6⟩ := cx
    have q : ∀ (j : Nat) (z : Int), j < 5 → V1 r j z = V r j z := fun j z hj => F1 r j z (fun q => by omega) (fun q => h5 q.1.symm)
    exact ⟨fun z => by rw [q 0 z (by decide)]; exact h1 z, fun z => by rw [q 1 z (by decide)]; exact h2 z, by rw [q 3 0 (by decide)]; exact h3, by rw [q 4 0 (by decide)]; exact h4, h5, h6⟩
  by_cases n8 : V1 r 8 0 = -1
  case neg =>
    have e3 := c_49_f (c := (m : Int)) cx1 h8 (by omega) e1 n8
    have e4 := m_34_f (j := (m : Int) + 1) k1 (by rw [g8]; exact n8)
    rw [g8] at e4
    exact ⟨_, _, _, _, _, e3, e2, e4, F1, re_ff_t G1 re_ff_14, rfl, u_e, Or.inr ⟨n8, rfl⟩⟩
  case pos =>
    obtain ⟨x3, at1, l5, l2, lX, hC⟩ := g9 n8
    have w18 : W1 a 21 0 = -1 := g8.trans n8
    have hi1 : rd_in o tk pl cd vl N V1 W1 r x a := ⟨ts, cx1, k1, n8, w18, at1⟩
    obtain ⟨T1, T2⟩ := rd_tT hi1
    have a19 := at1.1
    have W18 : W1 a 18 0 = N := by rw [g2 a 18 0 (fun q => absurd q.2 (by decide))]; exact h18
    -- all that was read
    have hM : ∀ z, 0 ≤ z → z < (m : Int) * 8 → V1 x 1 z = V x 1 z := fun z z0 z1 => g1 x 1 z (fun q => c5 q.1) (fun q => absurd q.2 (by decide)) (fun q => absurd q.2.2.1 (by omega))
    have hT1 : tx_c o cd vl (V1 x 0) (V1 x 1) (V1 x 2 0) m (V r 5 0) := tx_c_c lX hM l2 hT
    have hC1 : cl_ok o cd vl (V r 5 0) (V1 r 5 0) (V1 x 0) (fun w => V1 x 1 ((m : Int) * 8 + w)) (V1 x 2 0) := by
      have q : (fun w => mkv V1 x ((m : Int) + 1) w) = fun w => V1 x 1 ((m : Int) * 8 + w) := by
        funext w
        show V1 x 1 (((m : Int) + 1 - 1) * 8 + w) = _
        rw [show (m : Int) + 1 - 1 = m by omega]
      rw [← q]
      exact hC
    by_cases hs : tk (V1 r 5 0) = 59
    case neg =>
      have hc : cd (W1 a 19 0) ≠ 100 + 59 := by rw [a19]; exact fun q => hs ((rd_sg T1 (b := 59) (by decide) (by decide)).mpr q)
      by_cases ht : tk (V1 r 5 0) = -1
      · have e3 := c_49_end (c := (m : Int)) cx1 h8 (by omega) e1 n8 ht
        have hN : V1 r 5 0 = N := by
          have l := at1.2.1
          by_cases q : V1 r 5 0 < N
          · exact absurd ht ((ts.2.2 _ l.1 l.2).2.2 q).1
          · omega
        have e4 := m_34_end (j := (m : Int) + 1) k1 w18 hc (by rw [W18, a19]; omega)
        refine ⟨_, _, _, _, _, e3, e2, e4, F1, re_ff_t G1 re_ff_14, n8, u_e, Or.inl ⟨rfl, rfl, at1.2.2.2.2.1, m, V r 5 0, by omega, by omega, hT1, by omega, ?_⟩⟩
        rw [hN] at hC1
        exact hC1
      · have e3 := c_49_bad (c := (m : Int)) cx1 h8 (by omega) e1 n8 ht hs
        have hN : V1 r 5 0 < N := by
          have l := at1.2.1
          by_cases q : V1 r 5 0 = N
          · rw [q] at ht; exact absurd ts.2.1 ht
          · omega
        have e4 := m_34_bad (j := (m : Int) + 1) k1 w18 hc (by rw [W18, a19]; exact hN) (by rw [a19]; omega)
        rw [a19] at e4
        exact ⟨_, _, _, _, _, e3, e2, e4, rd_ff_t F1 (rd_ff_d (rd_fr_u (by decide))), re_ff_t (re_ff_t G1 (re_ff_d (re_fr_u (by decide)))) re_ff_14, u_e, u_e, Or.inr ⟨by omega, rfl⟩⟩
    case pos =>
      have hc : cd (V1 r 5 0) = 100 + 59 := (rd_sg T1 (b := 59) (by decide) (by decide)).mp hs
      obtain ⟨i1, p1, S1, q1⟩ := rd_iN hi1 (by omega)
      have v1 := @rd_w1 (tk (V1 r 5 0))
      have e3 := c_49_on (c := (m : Int)) cx1 h8 (by omega) e1 n8 hs
      have F2 : rd_fr r x V1 (dv_u V1 r 5 0 (V1 r 5 0 + 1)) := rd_fr_u (by decide)
      have z5 : dv_u V1 r 5 0 (V1 r 5 0 + 1) r 5 0 = V1 r 5 0 + 1 := u_e
      have z6 : dv_u V1 r 5 0 (V1 r 5 0 + 1) r 6 0 = V1 r 6 0 := u_j (by decide)
      have z7 : dv_u V1 r 5 0 (V1 r 5 0 + 1) r 7 0 = 0 := by rw [u_j (by decide), g7]
      have z8 : dv_u V1 r 5 0 (V1 r 5 0 + 1) r 8 0 = -1 := by rw [u_j (by decide), n8]
      have zx : ∀ m z, dv_u V1 r 5 0 (V1 r 5 0 + 1) x m z = V1 x m z := fun m z => u_b c5
      generalize dv_u V1 r 5 0 (V1 r 5 0 + 1) = V2 at e3 F2 z5 z6 z7 z8 zx
      have cx2 := rd_cx_f cx1 F2
      cases n with
      | zero =>
        have m11 : m = 11 := by omega
        subst m11
        have e5 := c_49_12 (c := ((11 : Nat) : Int) + 1) cx2 z8 (by omega)
        rw [z5] at e5
        have e4 := m_34_12 k1 w18 (by rw [a19]; exact hc) (by rw [a19]; omega)
        rw [a19] at e4
        exact ⟨_, _, _, _, _, e3.trans e5, e2, e4, rd_ff_t (rd_ff_t F1 (rd_ff_d F2)) (rd_ff_d (rd_fr_u (by decide))), re_ff_t (re_ff_t (re_ff_t G1 (re_ff_d (re_fr_u (by decide)))) (re_ff_d (re_fr_u (by decide)))) re_ff_14, u_e, u_e, Or.inr ⟨by omega, rfl⟩⟩
      | succ n =>
        have G2 : re_fr a W1 (dv_u W1 a 19 0 (W1 a 19 0 + 1)) := re_fr_u (by decide)
        have y18 : dv_u W1 a 19 0 (W1 a 19 0 + 1) a 18 0 = N := by rw [u_j (by decide), W18]
        have y19 : dv_u W1 a 19 0 (W1 a 19 0 + 1) a 19 0 = V1 r 5 0 + 1 := by rw [u_e, a19]
        have y20 : dv_u W1 a 19 0 (W1 a 19 0 + 1) a 20 0 = V1 r 6 0 := by rw [u_j (by decide), at1.2.2.1]
        have y21 : dv_u W1 a 19 0 (W1 a 19 0 + 1) a 21 0 = -1 := by rw [u_j (by decide), w18]
        have e4 := fun (U : dV) => m_34_on (W1 := U) (j := (m : Int) + 1) k1 w18 (by rw [a19]; exact hc) (by omega) (by omega)
        generalize dv_u W1 a 19 0 (W1 a 19 0 + 1) = W2 at G2 y18 y19 y20 y21 e4
        have at2 : rd_at pl N V2 W2 r x a := ⟨by rw [y19, z5], by rw [z5]; have := at1.2.1; omega, by rw [y20, z6], by rw [z6]; exact at1.2.2.2.1, by rw [zx]; exact at1.2.2.2.2.1, by rw [zx, z5]; have := at1.2.2.2.2.2; omega⟩
        have hi2 : rd_in o tk pl cd vl N V2 W2 r x a := ⟨ts, cx2, re_cx_f k1 G2, z8, y21, at2⟩
        have hT2 : tx_c o cd vl (V2 x 0) (V2 x 1) (V2 x 2 0) (m + 1) (V2 r 5 0) := by
          rw [show V2 x 0 = V1 x 0 from funext (zx 0), show V2 x 1 = V1 x 1 from funext (zx 1), zx, z5]
          exact ⟨V r 5 0, V1 r 5 0, hT1, l5, hC1, hc, rfl⟩
        obtain ⟨V', y, W3, W', y', f1, f2, f3, f4, f5, f6⟩ := ih n rfl (m + 1) V2 W2 (by omega) hi2 z7 (by rw [zx, x3]; omega) y18 hT2
        rw [show ((m + 1 : Nat) : Int) = (m : Int) + 1 by omega] at f1 f3
        exact ⟨V', y, W1, W', y', e3.trans f1, e2, (e4 W3 f2).trans f3, rd_ff_t (rd_ff_t F1 (rd_ff_d F2)) f4, re_ff_t (re_ff_t G1 (re_ff_d G2)) f5, f6⟩
theorem rr_L (ts : rd_ts tk pl cd vl N) (n : Nat) : rr_P o tk pl cd vl N r x a n := by
  induction n with
  | zero => exact rr_S ts 0 (fun n' h => absurd h (by omega))
  | succ n ih => exact rr_S ts (n + 1) (fun n' h => by cases h; exact ih)
end QSA
section QSB
variable {V V' W : dV} {r x a i t c v p q k w : Int}
def WL : List (List Int) := [[99, 111, 115, 116, 115], [119, 101, 97, 114, 115], [98, 97, 114, 115], [105, 102], [111, 114], [97, 110, 100], [110, 111, 116], [99, 97, 114, 112, 101, 116], [115, 105, 100, 101], [107, 105, 110, 100], [120], [121], [109, 111, 111, 100], [112, 105, 108, 101], [121, 101, 97, 114], [100, 111, 110, 101], [108, 97, 116, 101, 115, 116], [98, 97, 114, 101], [112, 97, 105, 100], [108, 97, 105, 100], [108, 97, 121], [97, 116], [98, 121], [114, 111, 108, 108], [109, 105, 114, 114, 111, 114], [112, 97, 115, 115], [116, 105, 109, 101, 115]]
def WT : List Int := [99, 111, 115, 116, 115, 32, 119, 101, 97, 114, 115, 32, 98, 97, 114, 115, 32, 105, 102, 32, 111, 114, 32, 97, 110, 100, 32, 110, 111, 116, 32, 99, 97, 114, 112, 101, 116, 32, 115, 105, 100, 101, 32, 107, 105, 110, 100, 32, 120, 32, 121, 32, 109, 111, 111, 100, 32, 112, 105, 108, 101, 32, 121, 101, 97, 114, 32, 100, 111, 110, 101, 32, 108, 97, 116, 101, 115, 116, 32, 98, 97, 114, 101, 32, 112, 97, 105, 100, 32, 108, 97, 105, 100, 32, 108, 97, 121, 32, 97, 116, 32, 98, 121, 32, 114, 111, 108, 108, 32, 109, 105, 114, 114, 111, 114, 32, 112, 97, 115, 115, 32, 116, 105, 109, 101, 115, 32]
/-- the bytes p .. q are the word u -/
def eqw (b : Int → Int) (p q : Int) (u : List Int) : Prop := q - p = (u.length : Int) ∧ ∀ i : Nat, i < u.length → b (p + i) = u.getD i 0
theorem eqw_c {b b' : Int → Int} {u : List Int} (h : ∀ z, p ≤ z → z < q → b' z = b z) (e : eqw b p q u) : eqw b' p q u := ⟨e.1, fun i hi => by rw [h _ (by omega) (by have := e.1; omega)]; exact e.2 i hi⟩
theorem eqw_u {b : Int → Int} {u u' : List Int} (h : eqw b p q u) (h' : eqw b p q u') : u = u' := by
  have hl : u.length = u'.length := by have := h.1; have := h'.1; omega
  refine List.ext_getElem hl (fun i h1 h2 => ?_)
  have e1 := h.2 i h1
  have e2 := h'.2 i h2
  rw [List.getD_eq_getElem?_getD, List.getElem?_eq_getElem h1] at e1
  rw [List.getD_eq_getElem?_getD, List.getElem?_eq_getElem h2] at e2
  exact e1.symm.trans e2
theorem WL_inj : ∀ c : Fin 27, ∀ d : Fin 27, WL.getD c.1 [] = WL.getD d.1 [] → c = d := by decide +kernel
theorem q_is {w1 : List Int32} {u : List Int} (hu : u.length = w1.length ∧ ∀ i : Nat, i < w1.length → u.getD i 0 = dv_ch (w1.getD i 0)) : ∃ y, f_X5_is w1 V r p q = (y, ()) ∧ (y = 1 ∧ eqw (V (V r 2 0) 0) p q u ∨ y = 0 ∧ ¬ eqw (V (V r 2 0) 0) p q u) := by
  obtain ⟨hl, hu⟩ := hu
  unfold f_X5_is
  rw [bq, bq]
  by_cases e : q - p = (w1.length : Int)
  · rw [if_pos e]
    refine dv_inv (P := fun s => ∃ j : Int, s = (V, r, p, q, j) ∧ p ≤ j ∧ j ≤ q ∧ ∀ i : Nat, p + i < j → V (V r 2 0) 0 (p + i) = u.getD i 0) (Q := fun z => ∃ y, z = (y, ()) ∧ (y = 1 ∧ eqw (V (V r 2 0) 0) p q u ∨ y = 0 ∧ ¬ eqw (V (V r 2 0) 0) p q u)) (m := fun s => (q - s.2.2.2.2).toNat) ?_ _ ⟨p, rfl, by omega, by omega, fun i h => absurd h (by omega)⟩
    rintro s ⟨j, rfl, j0, j1, hj⟩
    rw [f_X5_is_15e]
    unfold f_X5_is_15c
    by_cases e1 : q ≤ j
    · rw [if_pos e1]
      exact Or.inr ⟨_, rfl, 1, rfl, Or.inl ⟨rfl, by omega, fun i hi => hj i (by omega)⟩⟩
    · rw [if_neg e1, bq, bq, bq, bq]
      have hc := hu (j - p).toNat (by omega)
      by_cases e2 : V (V r 2 0) 0 j = dv_ch (w1.getD (j - p).toNat 0)
      · rw [if_pos e2, bq]
        refine Or.inl ⟨_, rfl, ⟨j + 1, rfl, by omega, by omega, fun i hi => ?_⟩, by dsimp only; omega⟩
        by_cases e3 : p + (i : Int) = j
        · rw [e3, e2, ← hc]; congr 1; omega
        · exact hj i (by omega)
      · rw [if_neg e2]
        refine Or.inr ⟨_, rfl, 0, rfl, Or.inr ⟨rfl, fun h => e2 ?_⟩⟩
        have h2 := h.2 (j - p).toNat (by omega)
        rw [hc, show p + ((j - p).toNat : Int) = j by omega] at h2
        exact h2
  · rw [if_neg e]
    exact ⟨0, rfl, Or.inr ⟨rfl, fun h => e (by rw [← hl]; exact h.1)⟩⟩
/-- the class's word -/
theorem q_wordFrom : ∃ t, f_X5_wordFrom V r p q = (t, ()) ∧ ((∃ k : Nat, k < 27 ∧ rd_wp t ((k : Int) + 1) ∧ eqw (V (V r 2 0) 0) p q (WL.getD k [])) ∨ t = 300 ∧ ∀ k : Nat, k < 27 → ¬ eqw (V (V r 2 0) 0) p q (WL.getD k [])) := by
  unfold f_X5_wordFrom
  obtain ⟨y0, e0, h0⟩ := q_is (V := V) (r := r) (p := p) (q := q) (w1 := [99, 111, 115, 116, 115]) (u := WL.getD 0 []) (by decide +kernel)
  rw [dv_bn2 e0]
  rcases h0 with ⟨g0, h0⟩ | ⟨g0, h0⟩
  · rw [g0, if_neg (by decide)]
    exact ⟨_, rfl, Or.inl ⟨0, by decide, by unfold rd_wp; omega, h0⟩⟩
  rw [g0, if_pos rfl]
  obtain ⟨y1, e1, h1⟩ := q_is (V := V) (r := r) (p := p) (q := q) (w1 := [119, 101, 97, 114, 115]) (u := WL.getD 1 []) (by decide +kernel)
  rw [dv_bn2 e1]
  rcases h1 with ⟨g1, h1⟩ | ⟨g1, h1⟩
  · rw [g1, if_neg (by decide)]
    exact ⟨_, rfl, Or.inl ⟨1, by decide, by unfold rd_wp; omega, h1⟩⟩
  rw [g1, if_pos rfl]
  obtain ⟨y2, e2, h2⟩ := q_is (V := V) (r := r) (p := p) (q := q) (w1 := [98, 97, 114, 115]) (u := WL.getD 2 []) (by decide +kernel)
  rw [dv_bn2 e2]
  rcases h2 with ⟨g2, h2⟩ | ⟨g2, h2⟩
  · rw [g2, if_neg (by decide)]
    exact ⟨_, rfl, Or.inl ⟨2, by decide, by unfold rd_wp; omega, h2⟩⟩
  rw [g2, if_pos rfl]
  obtain ⟨y3, e3, h3⟩ := q_is (V := V) (r := r) (p := p) (q := q) (w1 := [108, 97, 121]) (u := WL.getD 20 []) (by decide +kernel)
  rw [dv_bn2 e3]
  rcases h3 with ⟨g3, h3⟩ | ⟨g3, h3⟩
  · rw [g3, if_neg (by decide)]
    exact ⟨_, rfl, Or.inl ⟨20, by decide, by unfold rd_wp; omega, h3⟩⟩
  rw [g3, if_pos rfl]
  obtain ⟨y4, e4, h4⟩ := q_is (V := V) (r := r) (p := p) (q := q) (w1 := [114, 111, 108, 108]) (u := WL.getD 23 []) (by decide +kernel)
  rw [dv_bn2 e4]
  rcases h4 with ⟨g4, h4⟩ | ⟨g4, h4⟩
  · rw [g4, if_neg (by decide)]
    exact ⟨_, rfl, Or.inl ⟨23, by decide, by unfold rd_wp; omega, h4⟩⟩
  rw [g4, if_pos rfl]
  obtain ⟨y5, e5, h5⟩ := q_is (V := V) (r := r) (p := p) (q := q) (w1 := [109, 105, 114, 114, 111, 114]) (u := WL.getD 24 []) (by decide +kernel)
  rw [dv_bn2 e5]
  rcases h5 with ⟨g5, h5⟩ | ⟨g5, h5⟩
  · rw [g5, if_neg (by decide)]
    exact ⟨_, rfl, Or.inl ⟨24, by decide, by unfold rd_wp; omega, h5⟩⟩
  rw [g5, if_pos rfl]
  obtain ⟨y6, e6, h6⟩ := q_is (V := V) (r := r) (p := p) (q := q) (w1 := [112, 97, 115, 115]) (u := WL.getD 25 []) (by decide +kernel)
  rw [dv_bn2 e6]
  rcases h6 with ⟨g6, h6⟩ | ⟨g6, h6⟩
  · rw [g6, if_neg (by decide)]
    exact ⟨_, rfl, Or.inl ⟨25, by decide, by unfold rd_wp; omega, h6⟩⟩
  rw [g6, if_pos rfl]
  obtain ⟨y7, e7, h7⟩ := q_is (V := V) (r := r) (p := p) (q := q) (w1 := [105, 102]) (u := WL.getD 3 []) (by decide +kernel)
  rw [dv_bn2 e7]
  rcases h7 with ⟨g7, h7⟩ | ⟨g7, h7⟩
  · rw [g7, if_neg (by decide)]
    exact ⟨_, rfl, Or.inl ⟨3, by decide, by unfold rd_wp; omega, h7⟩⟩
  rw [g7, if_pos rfl]
  obtain ⟨y8, e8, h8⟩ := q_is (V := V) (r := r) (p := p) (q := q) (w1 := [116, 105, 109, 101, 115]) (u := WL.getD 26 []) (by decide +kernel)
  rw [dv_bn2 e8]
  rcases h8 with ⟨g8, h8⟩ | ⟨g8, h8⟩
  · rw [g8, if_neg (by decide)]
    exact ⟨_, rfl, Or.inl ⟨26, by decide, by unfold rd_wp; omega, h8⟩⟩
  rw [g8, if_pos rfl]
  obtain ⟨y9, e9, h9⟩ := q_is (V := V) (r := r) (p := p) (q := q) (w1 := [97, 116]) (u := WL.getD 21 []) (by decide +kernel)
  rw [dv_bn2 e9]
  rcases h9 with ⟨g9, h9⟩ | ⟨g9, h9⟩
  · rw [g9, if_neg (by decide)]
    exact ⟨_, rfl, Or.inl ⟨21, by decide, by unfold rd_wp; omega, h9⟩⟩
  rw [g9, if_pos rfl]
  obtain ⟨y10, e10, h10⟩ := q_is (V := V) (r := r) (p := p) (q := q) (w1 := [98, 121]) (u := WL.getD 22 []) (by decide +kernel)
  rw [dv_bn2 e10]
  rcases h10 with ⟨g10, h10⟩ | ⟨g10, h10⟩
  · rw [g10, if_neg (by decide)]
    exact ⟨_, rfl, Or.inl ⟨22, by decide, by unfold rd_wp; omega, h10⟩⟩
  rw [g10, if_pos rfl]
  obtain ⟨y11, e11, h11⟩ := q_is (V := V) (r := r) (p := p) (q := q) (w1 := [111, 114]) (u := WL.getD 4 []) (by decide +kernel)
  rw [dv_bn2 e11]
  rcases h11 with ⟨g11, h11⟩ | ⟨g11, h11⟩
  · rw [g11, if_neg (by decide)]
    exact ⟨_, rfl, Or.inl ⟨4, by decide, by unfold rd_wp; omega, h11⟩⟩
  rw [g11, if_pos rfl]
  obtain ⟨y12, e12, h12⟩ := q_is (V := V) (r := r) (p := p) (q := q) (w1 := [97, 110, 100]) (u := WL.getD 5 []) (by decide +kernel)
  rw [dv_bn2 e12]
  rcases h12 with ⟨g12, h12⟩ | ⟨g12, h12⟩
  · rw [g12, if_neg (by decide)]
    exact ⟨_, rfl, Or.inl ⟨5, by decide, by unfold rd_wp; omega, h12⟩⟩
  rw [g12, if_pos rfl]
  obtain ⟨y13, e13, h13⟩ := q_is (V := V) (r := r) (p := p) (q := q) (w1 := [110, 111, 116]) (u := WL.getD 6 []) (by decide +kernel)
  rw [dv_bn2 e13]
  rcases h13 with ⟨g13, h13⟩ | ⟨g13, h13⟩
  · rw [g13, if_neg (by decide)]
    exact ⟨_, rfl, Or.inl ⟨6, by decide, by unfold rd_wp; omega, h13⟩⟩
  rw [g13, if_pos rfl]
  obtain ⟨y14, e14, h14⟩ := q_is (V := V) (r := r) (p := p) (q := q) (w1 := [99, 97, 114, 112, 101, 116]) (u := WL.getD 7 []) (by decide +kernel)
  rw [dv_bn2 e14]
  rcases h14 with ⟨g14, h14⟩ | ⟨g14, h14⟩
  · rw [g14, if_neg (by decide)]
    exact ⟨_, rfl, Or.inl ⟨7, by decide, by unfold rd_wp; omega, h14⟩⟩
  rw [g14, if_pos rfl]
  obtain ⟨y15, e15, h15⟩ := q_is (V := V) (r := r) (p := p) (q := q) (w1 := [115, 105, 100, 101]) (u := WL.getD 8 []) (by decide +kernel)
  rw [dv_bn2 e15]
  rcases h15 with ⟨g15, h15⟩ | ⟨g15, h15⟩
  · rw [g15, if_neg (by decide)]
    exact ⟨_, rfl, Or.inl ⟨8, by decide, by unfold rd_wp; omega, h15⟩⟩
  rw [g15, if_pos rfl]
  obtain ⟨y16, e16, h16⟩ := q_is (V := V) (r := r) (p := p) (q := q) (w1 := [107, 105, 110, 100]) (u := WL.getD 9 []) (by decide +kernel)
  rw [dv_bn2 e16]
  rcases h16 with ⟨g16, h16⟩ | ⟨g16, h16⟩
  · rw [g16, if_neg (by decide)]
    exact ⟨_, rfl, Or.inl ⟨9, by decide, by unfold rd_wp; omega, h16⟩⟩
  rw [g16, if_pos rfl]
  obtain ⟨y17, e17, h17⟩ := q_is (V := V) (r := r) (p := p) (q := q) (w1 := [112, 105, 108, 101]) (u := WL.getD 13 []) (by decide +kernel)
  rw [dv_bn2 e17]
  rcases h17 with ⟨g17, h17⟩ | ⟨g17, h17⟩
  · rw [g17, if_neg (by decide)]
    exact ⟨_, rfl, Or.inl ⟨13, by decide, by unfold rd_wp; omega, h17⟩⟩
  rw [g17, if_pos rfl]
  obtain ⟨y18, e18, h18⟩ := q_is (V := V) (r := r) (p := p) (q := q) (w1 := [120]) (u := WL.getD 10 []) (by decide +kernel)
  rw [dv_bn2 e18]
  rcases h18 with ⟨g18, h18⟩ | ⟨g18, h18⟩
  · rw [g18, if_neg (by decide)]
    exact ⟨_, rfl, Or.inl ⟨10, by decide, by unfold rd_wp; omega, h18⟩⟩
  rw [g18, if_pos rfl]
  obtain ⟨y19, e19, h19⟩ := q_is (V := V) (r := r) (p := p) (q := q) (w1 := [121]) (u := WL.getD 11 []) (by decide +kernel)
  rw [dv_bn2 e19]
  rcases h19 with ⟨g19, h19⟩ | ⟨g19, h19⟩
  · rw [g19, if_neg (by decide)]
    exact ⟨_, rfl, Or.inl ⟨11, by decide, by unfold rd_wp; omega, h19⟩⟩
  rw [g19, if_pos rfl]
  obtain ⟨y20, e20, h20⟩ := q_is (V := V) (r := r) (p := p) (q := q) (w1 := [121, 101, 97, 114]) (u := WL.getD 14 []) (by decide +kernel)
  rw [dv_bn2 e20]
  rcases h20 with ⟨g20, h20⟩ | ⟨g20, h20⟩
  · rw [g20, if_neg (by decide)]
    exact ⟨_, rfl, Or.inl ⟨14, by decide, by unfold rd_wp; omega, h20⟩⟩
  rw [g20, if_pos rfl]
  obtain ⟨y21, e21, h21⟩ := q_is (V := V) (r := r) (p := p) (q := q) (w1 := [109, 111, 111, 100]) (u := WL.getD 12 []) (by decide +kernel)
  rw [dv_bn2 e21]
  rcases h21 with ⟨g21, h21⟩ | ⟨g21, h21⟩
  · rw [g21, if_neg (by decide)]
    exact ⟨_, rfl, Or.inl ⟨12, by decide, by unfold rd_wp; omega, h21⟩⟩
  rw [g21, if_pos rfl]
  obtain ⟨y22, e22, h22⟩ := q_is (V := V) (r := r) (p := p) (q := q) (w1 := [100, 111, 110, 101]) (u := WL.getD 15 []) (by decide +kernel)
  rw [dv_bn2 e22]
  rcases h22 with ⟨g22, h22⟩ | ⟨g22, h22⟩
  · rw [g22, if_neg (by decide)]
    exact ⟨_, rfl, Or.inl ⟨15, by decide, by unfold rd_wp; omega, h22⟩⟩
  rw [g22, if_pos rfl]
  obtain ⟨y23, e23, h23⟩ := q_is (V := V) (r := r) (p := p) (q := q) (w1 := [108, 97, 116, 101, 115, 116]) (u := WL.getD 16 []) (by decide +kernel)
  rw [dv_bn2 e23]
  rcases h23 with ⟨g23, h23⟩ | ⟨g23, h23⟩
  · rw [g23, if_neg (by decide)]
    exact ⟨_, rfl, Or.inl ⟨16, by decide, by unfold rd_wp; omega, h23⟩⟩
  rw [g23, if_pos rfl]
  obtain ⟨y24, e24, h24⟩ := q_is (V := V) (r := r) (p := p) (q := q) (w1 := [98, 97, 114, 101]) (u := WL.getD 17 []) (by decide +kernel)
  rw [dv_bn2 e24]
  rcases h24 with ⟨g24, h24⟩ | ⟨g24, h24⟩
  · rw [g24, if_neg (by decide)]
    exact ⟨_, rfl, Or.inl ⟨17, by decide, by unfold rd_wp; omega, h24⟩⟩
  rw [g24, if_pos rfl]
  obtain ⟨y25, e25, h25⟩ := q_is (V := V) (r := r) (p := p) (q := q) (w1 := [112, 97, 105, 100]) (u := WL.getD 18 []) (by decide +kernel)
  rw [dv_bn2 e25]
  rcases h25 with ⟨g25, h25⟩ | ⟨g25, h25⟩
  · rw [g25, if_neg (by decide)]
    exact ⟨_, rfl, Or.inl ⟨18, by decide, by unfold rd_wp; omega, h25⟩⟩
  rw [g25, if_pos rfl]
  obtain ⟨y26, e26, h26⟩ := q_is (V := V) (r := r) (p := p) (q := q) (w1 := [108, 97, 105, 100]) (u := WL.getD 19 []) (by decide +kernel)
  rw [dv_bn2 e26]
  rcases h26 with ⟨g26, h26⟩ | ⟨g26, h26⟩
  · rw [g26, if_neg (by decide)]
    exact ⟨_, rfl, Or.inl ⟨19, by decide, by unfold rd_wp; omega, h26⟩⟩
  rw [g26, if_pos rfl]
  refine ⟨_, rfl, Or.inr ⟨rfl, fun k hk => ?_⟩⟩
  have : k = 0 ∨ k = 1 ∨ k = 2 ∨ k = 3 ∨ k = 4 ∨ k = 5 ∨ k = 6 ∨ k = 7 ∨ k = 8 ∨ k = 9 ∨ k = 10 ∨ k = 11 ∨ k = 12 ∨ k = 13 ∨ k = 14 ∨ k = 15 ∨ k = 16 ∨ k = 17 ∨ k = 18 ∨ k = 19 ∨ k = 20 ∨ k = 21 ∨ k = 22 ∨ k = 23 ∨ k = 24 ∨ k = 25 ∨ k = 26 := by omega
  rcases this with rfl | rfl | rfl | rfl | rfl | rfl | rfl | rfl | rfl | rfl | rfl | rfl | rfl | rfl | rfl | rfl | rfl | rfl | rfl | rfl | rfl | rfl | rfl | rfl | rfl | rfl | rfl
  · exact h0
  · exact h1
  · exact h2
  · exact h7
  · exact h11
  · exact h12
  · exact h13
  · exact h14
  · exact h15
  · exact h16
  · exact h18
  · exact h19
  · exact h21
  · exact h17
  · exact h20
  · exact h22
  · exact h23
  · exact h24
  · exact h25
  · exact h26
  · exact h3
  · exact h9
  · exact h10
  · exact h4
  · exact h5
  · exact h6
  · exact h8
def WS : List Int := [0, 6, 12, 17, 20, 23, 27, 31, 38, 43, 48, 50, 52, 57, 62, 67, 72, 79, 84, 89, 94, 98, 101, 104, 109, 116, 121, 127]
theorem WT_ok : ∀ c : Fin 27, (0 ≤ WS.getD c.1 0 ∧ WS.getD c.1 0 < 127) ∧ WS.getD c.1 0 + ((WL.getD c.1 []).length : Int) < 127 ∧ WT.getD (WS.getD c.1 0 + ((WL.getD c.1 []).length : Int)).toNat 0 = 32 ∧ WS.getD (c.1 + 1) 0 = WS.getD c.1 0 + ((WL.getD c.1 []).length + 1) ∧ ∀ i : Fin (WL.getD c.1 []).length, WT.getD (WS.getD c.1 0 + (i.1 : Int)).toNat 0 = (WL.getD c.1 []).getD i.1 0 ∧ (WL.getD c.1 []).getD i.1 0 ≠ 32 := by decide +kernel
/-- one word of the table -/
theorem q_word1 {n : Nat} {u : List Int} (hn : u.length = n) (hu : ∀ i : Nat, i < n → W a 7 (k + i) = u.getD i 0 ∧ u.getD i 0 ≠ 32) (he : W a 7 (k + n) = 32) (hk : 0 ≤ k ∧ k < 127) (hw : 1 ≤ w ∧ w ≤ 27) : (eqw (W a 11) p q u ∧ f_X12_wordOf_5b (W, a, p, q, w, k) = Sum.inr (w, ())) ∨ (¬ eqw (W a 11) p q u ∧ f_X12_wordOf_5b (W, a, p, q, w, k) = Sum.inl (W, a, p, q, w + 1, k + ((n : Int) + 1))) := by
  have hA : dv_add w 1 = w + 1 := dv_add_ok (by omega) (by omega) (by omega) (by omega) (by decide) (by decide)
  have h18 : ∀ ρ : Sum (dV × Int × Int × Int × Int × Int) dP, f_X12_wordOf_18c W a p q w k (n : Int) = Sum.inr ρ → dv_lp f_X12_wordOf_18b (W, a, p, q, w, k, 0) = ρ := by
    intro ρ hρ
    refine dv_for2 (s := fun i => (W, a, p, q, w, k, (i : Int))) (n := n) rfl (fun i hi => ?_) ?_
    · rw [f_X12_wordOf_18e]
      unfold f_X12_wordOf_18c
      rw [bq, bq, (hu i hi).1, if_neg (hu i hi).2, bq]
      rfl
    · rw [f_X12_wordOf_18e]; exact hρ
  rw [f_X12_wordOf_5e]
  unfold f_X12_wordOf_5c
  rw [bq, if_neg (by omega)]
  by_cases e : (n : Int) = q - p
  · have L : (eqw (W a 11) p q u ∧ dv_lp f_X12_wordOf_57x2b (W, a, p, q, w, k, (n : Int), 1, 0) = Sum.inr (Sum.inr (w, ()))) ∨ (¬ eqw (W a 11) p q u ∧ dv_lp f_X12_wordOf_57x2b (W, a, p, q, w, k, (n : Int), 1, 0) = Sum.inr (Sum.inl (W, a, p, q, w + 1, k + ((n : Int) + 1)))) := by
      refine dv_inv (P := fun s => ∃ m j : Int, s = (W, a, p, q, w, k, (n : Int), m, j) ∧ 0 ≤ j ∧ j ≤ n ∧ (m = 1 ∧ (∀ i : Nat, (i : Int) < j → W a 11 (p + i) = u.getD i 0) ∨ m = 0 ∧ ¬ eqw (W a 11) p q u)) (Q := fun z => (eqw (W a 11) p q u ∧ z = Sum.inr (Sum.inr (w, ()))) ∨ (¬ eqw (W a 11) p q u ∧ z = Sum.inr (Sum.inl (W, a, p, q, w + 1, k + ((n : Int) + 1))))) (m := fun s => ((n : Int) - s.2.2.2.2.2.2.2.2).toNat) ?_ _ ⟨1, 0, rfl, by omega, by omega, Or.inl ⟨rfl, fun i hi => absurd hi (by omega)⟩⟩
      rintro s ⟨m, j, rfl, j0, j1, hj⟩
      rw [f_X12_wordOf_57x2e]
      unfold f_X12_wordOf_57x2c f_X12_wordOf_104x2
      rcases hj with ⟨rfl, hj⟩ | ⟨rfl, hj⟩
      · by_cases e1 : (n : Int) ≤ j
        · rw [if_pos e1, if_neg (by decide)]
          exact Or.inr ⟨_, rfl, Or.inl ⟨⟨by omega, fun i hi => hj i (by omega)⟩, rfl⟩⟩
        · rw [if_neg e1, if_neg (by decide), bq, bq, bq, bq]
          have hj2 := (hu j.toNat (by omega)).1
          rw [show ((j.toNat : Nat) : Int) = j by omega] at hj2
          by_cases e2 : W a 7 (k + j) ≠ W a 11 (p + j)
          · rw [if_pos e2, bq]
            refine Or.inl ⟨_, rfl, ⟨0, j + 1, rfl, by omega, by omega, Or.inr ⟨rfl, fun h => e2 ?_⟩⟩, by dsimp only; omega⟩
            have h2 := h.2 j.toNat (by omega)
            rw [show ((j.toNat : Nat) : Int) = j by omega] at h2
            rw [hj2, h2]
          · rw [if_neg e2, bq]
            refine Or.inl ⟨_, rfl, ⟨1, j + 1, rfl, by omega, by omega, Or.inl ⟨rfl, fun i hi => ?_⟩⟩, by dsimp only; omega⟩
            by_cases e3 : (i : Int) = j
            · have e4 : W a 7 (k + j) = W a 11 (p + j) := Classical.not_not.mp e2
              rw [e3, ← e4, hj2]; congr 1; omega
            · exact hj i (by omega)
      · have hR : (Sum.inr (Sum.inr (Sum.inl (W, a, p, q, dv_add w 1, k + ((n : Int) + 1)))) : Sum (dV × Int × Int × Int × Int × Int × Int × Int × Int) (Sum (dV × Int × Int × Int × Int × Int × Int) (Sum (dV × Int × Int × Int × Int × Int) (dP)))) = Sum.inr (Sum.inr (Sum.inl (W, a, p, q, w + 1, k + ((n : Int) + 1)))) := by rw [hA]
        by_cases e1 : (n : Int) ≤ j
        · rw [if_pos e1, if_pos rfl, bq, bq, bq, hR]
          exact Or.inr ⟨_, rfl, Or.inr ⟨hj, rfl⟩⟩
        · rw [if_neg e1, if_pos rfl, if_pos rfl, bq, bq, bq, hR]
          exact Or.inr ⟨_, rfl, Or.inr ⟨hj, rfl⟩⟩
    rcases L with ⟨l1, l2⟩ | ⟨l1, l2⟩
    · refine Or.inl ⟨l1, h18 _ ?_⟩
      unfold f_X12_wordOf_18c
      rw [bq, bq, he, if_pos rfl, bq, if_neg (fun z => z e), l2]
    · refine Or.inr ⟨l1, h18 _ ?_⟩
      unfold f_X12_wordOf_18c
      rw [bq, bq, he, if_pos rfl, bq, if_neg (fun z => z e), l2]
  · refine Or.inr ⟨fun h => e (by have := h.1; omega), h18 _ ?_⟩
    have L : dv_lp f_X12_wordOf_57b (W, a, p, q, w, k, (n : Int), 0, 0) = Sum.inr (Sum.inl (W, a, p, q, w + 1, k + ((n : Int) + 1))) := by
      refine dv_lp_e ?_
      rw [f_X12_wordOf_57e]
      unfold f_X12_wordOf_57c f_X12_wordOf_104
      by_cases e1 : (n : Int) ≤ 0
      · rw [if_pos e1, if_pos rfl, bq, bq, bq, hA]
      · rw [if_neg e1, if_pos rfl, if_pos rfl, bq, bq, bq, hA]
    unfold f_X12_wordOf_18c
    rw [bq, bq, he, if_pos rfl, bq, if_pos e, L]
/-- the reference's word -/
theorem q_wordOf (h7 : ∀ z, 0 ≤ z → z < 127 → W a 7 z = WT.getD z.toNat 0) : ∃ c : Int, f_X12_wordOf W a p q = (c, ()) ∧ ((∃ k : Nat, k < 27 ∧ c = (k : Int) + 1 ∧ eqw (W a 11) p q (WL.getD k [])) ∨ c = 0 ∧ ∀ k : Nat, k < 27 → ¬ eqw (W a 11) p q (WL.getD k [])) := by
  unfold f_X12_wordOf
  refine dv_inv (P := fun s => ∃ k : Nat, k ≤ 27 ∧ s = (W, a, p, q, (k : Int) + 1, WS.getD k 0) ∧ ∀ d : Nat, d < k → ¬ eqw (W a 11) p q (WL.getD d [])) (Q := fun z => ∃ c : Int, z = (c, ()) ∧ ((∃ k : Nat, k < 27 ∧ c = (k : Int) + 1 ∧ eqw (W a 11) p q (WL.getD k [])) ∨ c = 0 ∧ ∀ k : Nat, k < 27 → ¬ eqw (W a 11) p q (WL.getD k []))) (m := fun s => (28 - s.2.2.2.2.1).toNat) ?_ _ ⟨0, by decide, rfl, fun d hd => absurd hd (by omega)⟩
  rintro s ⟨k, hk, rfl, hd⟩
  by_cases e : k = 27
  · subst e
    right
    refine ⟨(0, ()), ?_, 0, rfl, Or.inr ⟨rfl, hd⟩⟩
    rw [f_X12_wordOf_5e]
    unfold f_X12_wordOf_5c
    rw [bq, if_pos (by decide)]
  · obtain ⟨k0, k1, k2, k3, k4⟩ := WT_ok ⟨k, by omega⟩
    dsimp only at k0 k1 k2 k3 k4
    have hq := q_word1 (W := W) (a := a) (p := p) (q := q) (w := (k : Int) + 1) (k := WS.getD k 0) (u := WL.getD k []) (n := (WL.getD k []).length) rfl (fun i hi => by
      have := k4 ⟨i, hi⟩
      dsimp only at this
      rw [h7 _ (by omega) (by omega)]
      exact this) (by rw [h7 _ (by omega) (by omega)]; exact k2) k0 (by omega)
    rcases hq with ⟨q1, q2⟩ | ⟨q1, q2⟩
    · exact Or.inr ⟨_, q2, _, rfl, Or.inl ⟨k, by omega, rfl, q1⟩⟩
    · refine Or.inl ⟨_, q2, ⟨k + 1, by omega, ?_, fun d h => ?_⟩, by dsimp only; omega⟩
      · rw [k3]; congr 5
      · by_cases z : d = k
        · rw [z]; exact q1
        · exact hd d (by omega)
/-- both words -/
theorem q_words (h7 : ∀ z, 0 ≤ z → z < 127 → W a 7 z = WT.getD z.toNat 0) (hb : ∀ z, p ≤ z → z < q → V (V r 2 0) 0 z = W a 11 z) : ∃ t c : Int, f_X5_wordFrom V r p q = (t, ()) ∧ f_X12_wordOf W a p q = (c, ()) ∧ (rd_wp t c ∧ (t = 312 → q - p = 2) ∧ (t = 313 → q - p = 3) ∨ t = 300 ∧ c = 0) := by
  obtain ⟨t, e1, h1⟩ := q_wordFrom (V := V) (r := r) (p := p) (q := q)
  obtain ⟨c, e2, h2⟩ := q_wordOf (p := p) (q := q) h7
  refine ⟨t, c, e1, e2, ?_⟩
  rcases h1 with ⟨k, k27, kw, ke⟩ | ⟨rfl, hn⟩
  · have ke' := eqw_c (b' := W a 11) (fun z z0 z1 => (hb z z0 z1).symm) ke
    rcases h2 with ⟨d, d27, rfl, de⟩ | ⟨-, hn⟩
    · have kd : k = d := by
        have := WL_inj ⟨k, k27⟩ ⟨d, d27⟩ (eqw_u ke' de)
        exact congrArg Fin.val this
      subst kd
      refine Or.inl ⟨kw, fun z => ?_, fun z => ?_⟩
      · have : k = 4 := by subst z; unfold rd_wp at kw; omega
        subst this
        exact ke.1
      · have : k = 5 := by subst z; unfold rd_wp at kw; omega
        subst this
        exact ke.1
    · exact absurd ke' (hn k k27)
  · rcases h2 with ⟨d, d27, rfl, de⟩ | ⟨rfl, -⟩
    · exact absurd (eqw_c (b' := V (V r 2 0) 0) (fun z z0 z1 => hb z z0 z1) de) (hn d d27)
    · exact Or.inr ⟨rfl, rfl⟩
end QSB
