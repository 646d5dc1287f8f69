section QRQ
variable {V V' V1 V2 W W' W1 : dV} {r x a i t c v o p N lev h : Int} {tk pl cd vl : Int → Int} {D d : Nat} {El : Int → Int → dn → Prop}
theorem rd_w1 : 1 ≤ rd_w t := by unfold rd_w; split <;> (try split) <;> omega
-- tokens
theorem tk_num (T : rd_tk t c v) (h : 400 ≤ t) : c = 50 ∧ (t ≤ 1400 → v = t - 400) ∧ (1400 < t → t = 1401 ∧ 1000 < v) := by unfold rd_tk rd_wp at T; omega
theorem tk_non (T : rd_tk t c v) (h : t < 400) : c ≠ 50 := by unfold rd_tk rd_wp at T; omega
theorem tk_bd (T : rd_tk t c v) : -1 ≤ t ∧ t ≤ 1401 := by unfold rd_tk rd_wp at T; omega
theorem tk_91q (T : rd_tk t c v) (h : t ≠ 91) : c ≠ 191 := by unfold rd_tk rd_wp at T; omega
theorem tk_law (T : rd_tk t c v) (h : t < 400) : (315 ≤ t ∧ t ≤ 322) ↔ (8 ≤ c ∧ c ≤ 15) := by unfold rd_tk rd_wp at T; omega
theorem tk_ord (T : rd_tk t c v) (h : t < 400) : (14 ≤ c ∧ c ≤ 20) ↔ ((323 ≤ t ∧ t ≤ 326) ∨ t = 321 ∨ t = 318 ∨ t = 327) := by unfold rd_tk rd_wp at T; omega
theorem tk_lw (T : rd_tk t c v) (h0 : 315 ≤ t) (h1 : t ≤ 322) : d_lw c = t - 315 := by
  unfold rd_tk rd_wp at T
  have h : t = 315 ∨ t = 316 ∨ t = 317 ∨ t = 318 ∨ t = 319 ∨ t = 320 ∨ t = 321 ∨ t = 322 := by clear T; omega
  rcases h with rfl | rfl | rfl | rfl | rfl | rfl | rfl | rfl
  · have e : c = 8 := by omega
    rw [e]; rfl
  · have e : c = 9 := by omega
    rw [e]; rfl
  · have e : c = 10 := by omega
    rw [e]; rfl
  · have e : c = 14 := by omega
    rw [e]; rfl
  · have e : c = 11 := by omega
    rw [e]; rfl
  · have e : c = 12 := by omega
    rw [e]; rfl
  · have e : c = 15 := by omega
    rw [e]; rfl
  · have e : c = 13 := by omega
    rw [e]; rfl
theorem tk_ow (T : rd_tk t c v) (h : (323 ≤ t ∧ t ≤ 326) ∨ t = 321) : (15 ≤ c ∧ c ≤ 19) ∧ (if t = 321 then 0 else t - 322) = c - 15 := by
  unfold rd_tk rd_wp at T
  split <;> omega
theorem tk_pw (T : rd_tk t c v) (h : t = 318 ∨ t = 327) : (c = 14 ∨ c = 20) ∧ (if t = 318 then (2005 : Int) else 2014) = 2000 + (if c = 14 then 5 else 14) := by
  unfold rd_tk rd_wp at T
  rcases h with rfl | rfl
  · have : c = 14 := by omega
    rw [this]; exact ⟨Or.inl rfl, rfl⟩
  · have : c = 20 := by omega
    rw [this]; exact ⟨Or.inr rfl, rfl⟩
theorem c_failed (cx : rd_cx o tk pl V r x) (f : rd_fr r x V V2) (h7 : V2 r 7 0 = V r 7 0) (h8 : V2 r 8 0 = -1) : rd_fr r x V (f_X5_fail V2 r).1 ∧ (f_X5_fail V2 r).1 r 7 0 = V r 7 0 ∧ (f_X5_fail V2 r).1 r 8 0 = pl (V2 r 5 0) := by
  rw [c_fail (rd_cx_f cx f) h8]
  exact ⟨rd_fr_t f (rd_fr_u (by decide)), by show dv_u _ _ _ _ _ _ _ _ = _; rw [u_j (by decide), h7], by show dv_u _ _ _ _ _ _ _ _ = _; rw [u_e]⟩
/-- both stand unfaulty at one place -/
def rd_in (o : Int) (tk pl cd vl : Int → Int) (N : Int) (V W : dV) (r x a : Int) : Prop := rd_ts tk pl cd vl N ∧ rd_cx o tk pl V r x ∧ re_cx o cd vl pl W a ∧ V r 8 0 = -1 ∧ W a 21 0 = -1 ∧ rd_at pl N V W r x a
/-- both have read a PART -/
def rd_pt (o : Int) (pl cd vl : Int → Int) (N lev : Int) (V W : dV) (r x a : Int) (D d : Nat) : Prop := ∃ (V' : dV) (y : Int) (W' : dV) (y' : Int), f_X5_readPart D V r = (V', y) ∧ f_X12_readPart d W a lev = (W', y') ∧ rd_out pl N 1 (D_leaf o cd vl) V W r x a V' W'
theorem rd_iN (hi : rd_in o tk pl cd vl N V W r x a) (h : tk (V r 5 0) ≠ -1) : V r 5 0 < N ∧ pl (V r 5 0) + rd_w (tk (V r 5 0)) ≤ pl (V r 5 0 + 1) ∧ rd_tk (tk (V r 5 0 + 1)) (cd (V r 5 0 + 1)) (vl (V r 5 0 + 1)) ∧ 0 ≤ pl (V r 5 0 + 1) ∧ pl (V r 5 0 + 1) ≤ 400 := by
  obtain ⟨⟨tN, tE, tA⟩, -, -, -, -, -, a2, -⟩ := hi
  have n : V r 5 0 < N := by
    have : V r 5 0 ≠ N := fun e => h (by rw [e]; exact tE)
    omega
  obtain ⟨S1, S2, S3⟩ := tA (V r 5 0 + 1) (by omega) (by omega)
  exact ⟨n, ((tA (V r 5 0) a2.1 a2.2).2.2 n).2, S1, S2⟩
theorem rd_tT (hi : rd_in o tk pl cd vl N V W r x a) : rd_tk (tk (V r 5 0)) (cd (V r 5 0)) (vl (V r 5 0)) ∧ 0 ≤ pl (V r 5 0) ∧ pl (V r 5 0) ≤ 400 := by
  obtain ⟨⟨tN, tE, tA⟩, -, -, -, -, -, a2, -⟩ := hi
  exact ⟨(tA (V r 5 0) a2.1 a2.2).1, (tA (V r 5 0) a2.1 a2.2).2.1⟩
/-- no PART, where there is room -/
theorem rd_ptN (hi : rd_in o tk pl cd vl N V W r x a) (h91 : tk (V r 5 0) ≠ 91) (h50 : V r 6 0 < 50) (h4 : tk (V r 5 0) < 400) (ho : V r 4 0 = 0 ∧ (tk (V r 5 0) < 315 ∨ 322 < tk (V r 5 0)) ∨ V r 4 0 ≠ 0 ∧ ¬ (323 ≤ tk (V r 5 0) ∧ tk (V r 5 0) ≤ 326) ∧ tk (V r 5 0) ≠ 321 ∧ tk (V r 5 0) ≠ 318 ∧ tk (V r 5 0) ≠ 327) : rd_pt o pl cd vl N lev V W r x a D d := by
  obtain ⟨T1, T2⟩ := rd_tT hi
  obtain ⟨ts, cx, kx, h8, w8, at0⟩ := hi
  have a1 := at0.1
  have hp : pl (V r 5 0) ≠ -1 := by omega
  have c6 := cx.2.2.2.2.2
  have c4 := cx.2.2.2.1
  have k5 := kx.2.2.2.2.1
  have k6 := kx.2.2.2.2.2
  have t5 := tk_non T1 h4
  have tl := tk_law T1 h4
  have to := tk_ord T1 h4
  have hw : cd (V r 5 0) < W a 8 0 ∨ W a 9 0 < cd (V r 5 0) := by
    rcases c6 with e | e
    · have := k5 e; omega
    · have := k6 e; omega
  have e1 := c_partN (D := D) (c_seen cx h8) h91 h50 h4 ho
  have e2 := m_partN (d := d) (lev := lev) kx w8 (by rw [a1]; exact tk_91q T1 h91) (by rw [a1]; omega) (by rw [a1]; exact hw)
  obtain ⟨F1, F2, F3⟩ := c_failed cx (V2 := dv_u (dv_u V r 6 0 (V r 6 0 + 1)) r 5 0 (V r 5 0)) (rd_fr_t (rd_fr_u (by decide)) (rd_fr_u (by decide))) (by rw [u_j (by decide), u_j (by decide)]) (by rw [u_j (by decide), u_j (by decide), h8])
  rw [u_e] at F3
  exact ⟨_, _, _, _, e1, e2, rd_bad F1 (re_fr_u (by decide)) F2 F3 (by rw [u_e, a1]) hp⟩
/-- one PART too many -/
theorem rd_pt50 (hi : rd_in o tk pl cd vl N V W r x a) (h91 : tk (V r 5 0) ≠ 91) (h50 : ¬ V r 6 0 < 50) : rd_pt o pl cd vl N lev V W r x a D d := by
  obtain ⟨T1, T2⟩ := rd_tT hi
  obtain ⟨ts, cx, kx, h8, w8, at0⟩ := hi
  obtain ⟨a1, a2, a3, a4, a5, a6⟩ := at0
  have hp : pl (V r 5 0) ≠ -1 := by omega
  have n91 : cd (W a 19 0) ≠ 191 := by rw [a1]; exact tk_91q T1 h91
  have e1 := c_part50 (D := D) (c_seen cx h8) h91 h50
  obtain ⟨F1, F2, F3⟩ := c_failed cx (V2 := V) rd_fr_r rfl h8
  by_cases hy : (cd (W a 19 0) = 50 ∧ vl (W a 19 0) ≤ 1000) ∨ (cd (W a 19 0) ≠ 50 ∧ W a 8 0 ≤ cd (W a 19 0) ∧ cd (W a 19 0) ≤ W a 9 0)
  · have l0 := m_leaf0 (W := W) (a := a) kx w8 (by omega) (by rw [a1]; exact hp)
    have e2 := m_partY (d := d) (lev := lev) kx w8 n91 hy l0
    have z21 : dv_u (dv_u W a 21 0 (pl (W a 19 0))) a 20 0 51 a 21 0 = pl (V r 5 0) := by rw [u_j (by decide), u_e, a1]
    rw [m_num_f (by rw [z21]; exact hp)] at e2
    have e3 : ∀ (P Q : Prop) [Decidable P] [Decidable Q] (Z : dV), (if P then (Z, (0 : Int)) else if Q then ((Z, (0 : Int)).1, 0) else (Z, 0)) = (Z, 0) := by
      intro P Q _ _ Z; split <;> (try split) <;> rfl
    rw [e3] at e2
    exact ⟨_, _, _, _, e1, e2, rd_bad F1 (re_fr_t (re_fr_u (by decide)) (re_fr_u (by decide))) F2 F3 z21 hp⟩
  · have k5 := kx.2.2.2.2.1
    have k6 := kx.2.2.2.2.2
    have hw : cd (W a 19 0) < W a 8 0 ∨ W a 9 0 < cd (W a 19 0) := by
      rcases cx.2.2.2.2.2 with e | e
      · have := k5 e; omega
      · have := k6 e; omega
    have e2 := m_partN (d := d) (lev := lev) kx w8 n91 (by omega) hw
    exact ⟨_, _, _, _, e1, e2, rd_bad F1 (re_fr_u (by decide)) F2 F3 (by rw [u_e, a1]) hp⟩
/-- the reference's step over a PART -/
theorem m_leafs (kx : re_cx o cd vl pl W a) (w8 : W a 21 0 = -1) (at0 : rd_at pl N V W r x a) (h50 : V r 6 0 < 50) : ∃ WL, f_X12_leaf W a = (WL, 0) ∧ re_fr a W WL ∧ WL a 21 0 = -1 ∧ WL a 19 0 = V r 5 0 + 1 ∧ WL a 20 0 = V r 6 0 + 1 ∧ WL a 10 0 = o := by
  obtain ⟨a1, a2, a3, a4, a5, a6⟩ := at0
  refine ⟨_, m_leaf1 w8 (by omega) (by omega), re_fr_t (re_fr_u (by decide)) (re_fr_u (by decide)), ?_, ?_, ?_, ?_⟩
  · rw [u_j (by decide), u_j (by decide), w8]
  · rw [u_e, a1]
  · rw [u_j (by decide), u_e, a3]
  · rw [u_j (by decide), u_j (by decide), kx.2.2.2.1]
/-- a NUMBER -/
theorem rd_ptM (hi : rd_in o tk pl cd vl N V W r x a) (h50 : V r 6 0 < 50) (hn : 400 ≤ tk (V r 5 0)) : rd_pt o pl cd vl N lev V W r x a D d := by
  obtain ⟨T1, T2⟩ := rd_tT hi
  have hN := rd_iN hi (by omega)
  obtain ⟨ts, cx, kx, h8, w8, at0⟩ := hi
  obtain ⟨a1, a2, a3, a4, a5, a6⟩ := id at0
  have c5 := cx.2.2.2.2.1
  have c3 := cx.2.2.1
  have hp : pl (V r 5 0) ≠ -1 := by omega
  have w1 := @rd_w1 (tk (V r 5 0))
  obtain ⟨cd5, v1, v2⟩ := tk_num T1 hn
  have n91 : cd (W a 19 0) ≠ 191 := by rw [a1]; omega
  have f1 : rd_fr r x V (dv_u V r 6 0 (V r 6 0 + 1)) := rd_fr_u (by decide)
  have cx1 := rd_cx_f cx f1
  by_cases hn1 : tk (V r 5 0) ≤ 1400
  · have vl5 := v1 hn1
    obtain ⟨WL, l1, Lfr, L21, L19, L20, L10⟩ := m_leafs kx w8 at0 h50
    have en := c_num1 (V := dv_u V r 6 0 (V r 6 0 + 1)) (l := 0) (m := 1000) (n := tk (V r 5 0) - 400) cx1 (by rw [u_j (by decide)]; exact h8) (by rw [u_j (by decide)]; omega) (by omega) (by omega) (by omega)
    have z5 : dv_u (dv_u V r 6 0 (V r 6 0 + 1)) r 5 0 (dv_u V r 6 0 (V r 6 0 + 1) r 5 0 + 1) r 5 0 = V r 5 0 + 1 := by rw [u_e, u_j (by decide)]
    have z8 : dv_u (dv_u V r 6 0 (V r 6 0 + 1)) r 5 0 (dv_u V r 6 0 (V r 6 0 + 1) r 5 0 + 1) r 8 0 = -1 := by rw [u_j (by decide), u_j (by decide), h8]
    have z7 : dv_u (dv_u V r 6 0 (V r 6 0 + 1)) r 5 0 (dv_u V r 6 0 (V r 6 0 + 1) r 5 0 + 1) r 7 0 = V r 7 0 := by rw [u_j (by decide), u_j (by decide)]
    have z6 : dv_u (dv_u V r 6 0 (V r 6 0 + 1)) r 5 0 (dv_u V r 6 0 (V r 6 0 + 1) r 5 0 + 1) r 6 0 = V r 6 0 + 1 := by rw [u_j (by decide), u_e]
    have zx : ∀ m z, dv_u (dv_u V r 6 0 (V r 6 0 + 1)) r 5 0 (dv_u V r 6 0 (V r 6 0 + 1) r 5 0 + 1) x m z = V x m z := fun m z => by rw [u_b c5, u_b c5]
    have Fr : rd_fr r x V (dv_u (dv_u V r 6 0 (V r 6 0 + 1)) r 5 0 (dv_u V r 6 0 (V r 6 0 + 1) r 5 0 + 1)) := rd_fr_t f1 (rd_fr_u (by decide))
    generalize dv_u (dv_u V r 6 0 (V r 6 0 + 1)) r 5 0 (dv_u V r 6 0 (V r 6 0 + 1) r 5 0 + 1) = VN at en z5 z8 z7 z6 zx Fr
    have e1 := c_partM (D := D) (c_seen cx h8) h50 hn en
    rw [if_neg (by omega), (rd_cx_f cx Fr).2.2.1] at e1
    have e2 := m_partY (d := d) (lev := lev) kx w8 n91 (Or.inl ⟨by rw [a1]; exact cd5, by rw [a1]; omega⟩) l1
    rw [if_neg (show ¬ (cd (W a 19 0) = 14 ∨ cd (W a 19 0) = 20) by rw [a1]; omega)] at e2
    have e3 : (if WL a 10 0 = 0 then (WL, (0 : Int)) else (WL, 0)) = (WL, 0) := by split <;> rfl
    rw [e3] at e2
    exact ⟨_, _, _, _, e1, e2, rd_push (j := V r 5 0 + 1) (n := V r 6 0 + 1) (A := fun _ => some (vl (V r 5 0))) c5 at0 h8 (rd_fr_t Fr (rd_fr_u (by decide))) (by rw [u_j (by decide), z7]) (by rw [u_j (by decide), z8]) (fun z => by rw [u_b c5, zx]) (by rw [u_b c5, zx]) Lfr L21 L19 L20 (by rw [u_e, z5]) (by rw [u_j (by decide), z6]) (by omega) (by omega) (by omega) (by omega) (Or.inl ⟨cd5, by omega, rfl, rfl⟩) (by omega) (fun X p hX => K_num (by rw [hX, vl5]) (by omega))⟩
  · obtain ⟨t5, v5⟩ := v2 (by omega)
    have e1 := c_partM (D := D) (c_seen cx h8) h50 hn (c_num0 (V := dv_u V r 6 0 (V r 6 0 + 1)) (l := 0) (m := 1000) (n := 1001) cx1 (fun _ => by rw [u_j (by decide)]; omega) (fun _ => by omega))
    rw [if_pos rfl, u_j (by decide)] at e1
    have k5 := kx.2.2.2.2.1
    have k6 := kx.2.2.2.2.2
    have hw : cd (V r 5 0) < W a 8 0 ∨ W a 9 0 < cd (V r 5 0) := by
      rcases cx.2.2.2.2.2 with e | e
      · have := k5 e; omega
      · have := k6 e; omega
    have e2 := m_partN (d := d) (lev := lev) kx w8 n91 (by rw [a1]; omega) (by rw [a1]; exact hw)
    obtain ⟨F1, F2, F3⟩ := c_failed cx (V2 := dv_u (dv_u V r 6 0 (V r 6 0 + 1)) r 5 0 (V r 5 0)) (rd_fr_t f1 (rd_fr_u (by decide))) (by rw [u_j (by decide), u_j (by decide)]) (by rw [u_j (by decide), u_j (by decide), h8])
    rw [u_e] at F3
    exact ⟨_, _, _, _, e1, e2, rd_bad F1 (re_fr_u (by decide)) F2 F3 (by rw [u_e, a1]) hp⟩
/-- the class's step over a word -/
theorem c_word (c5 : x ≠ r) (h8 : V r 8 0 = -1) : ∃ VL, dv_u (dv_u V r 6 0 (V r 6 0 + 1)) r 5 0 (V r 5 0 + 1) = VL ∧ rd_fr r x V VL ∧ VL r 5 0 = V r 5 0 + 1 ∧ VL r 8 0 = -1 ∧ VL r 7 0 = V r 7 0 ∧ VL r 6 0 = V r 6 0 + 1 ∧ ∀ m z, VL x m z = V x m z := by
  refine ⟨_, rfl, rd_fr_t (rd_fr_u (by decide)) (rd_fr_u (by decide)), u_e, ?_, ?_, ?_, fun m z => ?_⟩
  · rw [u_j (by decide), u_j (by decide), h8]
  · rw [u_j (by decide), u_j (by decide)]
  · rw [u_j (by decide), u_e]
  · rw [u_b c5, u_b c5]
theorem rd_ptL (hi : rd_in o tk pl cd vl N V W r x a) (h50 : V r 6 0 < 50) (o0 : o = 0) (hw : 315 ≤ tk (V r 5 0) ∧ tk (V r 5 0) ≤ 322) : rd_pt o pl cd vl N lev V W r x a D d := by
  obtain ⟨T1, T2⟩ := rd_tT hi
  have hN := rd_iN hi (by omega)
  obtain ⟨ts, cx, kx, h8, w8, at0⟩ := hi
  have a1 := at0.1
  have a4 := at0.2.2.2.1
  have c5 := cx.2.2.2.2.1
  have w1 := @rd_w1 (tk (V r 5 0))
  obtain ⟨WL, l1, Lfr, L21, L19, L20, L10⟩ := m_leafs kx w8 at0 h50
  have cw := (tk_law T1 (by omega)).mp hw
  have dl := tk_lw T1 hw.1 hw.2
  have e1 := c_partL (D := D) (c_seen cx h8) h50 (by rw [cx.2.2.2.1, o0]) hw.1 hw.2
  obtain ⟨VL, eL, Fr, z5, z8, z7, z6, zx⟩ := c_word (V := V) c5 h8
  rw [cx.2.2.1, eL] at e1
  have k5 := kx.2.2.2.2.1 o0
  have e2 := m_partY (d := d) (lev := lev) kx w8 (by rw [a1]; exact tk_91q T1 (by omega)) (Or.inr ⟨by rw [a1]; omega, by rw [k5.1, k5.2, a1]; omega⟩) l1
  rw [if_pos (by rw [L10, o0])] at e2
  exact ⟨_, _, _, _, e1, e2, rd_push (j := V r 5 0 + 1) (n := V r 6 0 + 1) (A := fun w => some (w (d_lw (cd (V r 5 0))))) c5 at0 h8 Fr z7 z8 (fun z => zx 0 z) (zx 2 0) Lfr L21 L19 L20 z5 z6 (by omega) (by omega) (by omega) (by omega) (Or.inr (Or.inl ⟨o0, cw, rfl, rfl⟩)) (by omega) (fun X p hX => K_word (by rw [hX, dl]) (by omega) (by omega))⟩
theorem rd_ptO (hi : rd_in o tk pl cd vl N V W r x a) (h50 : V r 6 0 < 50) (o1 : o = 1) (hw : (323 ≤ tk (V r 5 0) ∧ tk (V r 5 0) ≤ 326) ∨ tk (V r 5 0) = 321) : rd_pt o pl cd vl N lev V W r x a D d := by
  obtain ⟨T1, T2⟩ := rd_tT hi
  have hN := rd_iN hi (by omega)
  obtain ⟨ts, cx, kx, h8, w8, at0⟩ := hi
  have a1 := at0.1
  have a4 := at0.2.2.2.1
  have c5 := cx.2.2.2.2.1
  have w1 := @rd_w1 (tk (V r 5 0))
  obtain ⟨WL, l1, Lfr, L21, L19, L20, L10⟩ := m_leafs kx w8 at0 h50
  obtain ⟨cw, dl⟩ := tk_ow T1 hw
  have e1 := c_partO (D := D) (c_seen cx h8) h50 (by rw [cx.2.2.2.1, o1]; decide) hw
  obtain ⟨VL, eL, Fr, z5, z8, z7, z6, zx⟩ := c_word (V := V) c5 h8
  rw [cx.2.2.1, eL, dl] at e1
  have k6 := kx.2.2.2.2.2 o1
  have e2 := m_partY (d := d) (lev := lev) kx w8 (by rw [a1]; exact tk_91q T1 (by omega)) (Or.inr ⟨by rw [a1]; omega, by rw [k6.1, k6.2, a1]; omega⟩) l1
  rw [if_neg (by rw [L10, o1]; decide), if_neg (by rw [a1]; omega)] at e2
  exact ⟨_, _, _, _, e1, e2, rd_push (j := V r 5 0 + 1) (n := V r 6 0 + 1) (A := fun w => some (w (cd (V r 5 0) - 15))) c5 at0 h8 Fr z7 z8 (fun z => zx 0 z) (zx 2 0) Lfr L21 L19 L20 z5 z6 (by omega) (by omega) (by omega) (by omega) (Or.inr (Or.inr (Or.inr ⟨o1, cw, rfl, rfl⟩))) (by omega) (fun X p hX => K_word hX (by omega) (by omega))⟩
theorem rd_ptP (hi : rd_in o tk pl cd vl N V W r x a) (h50 : V r 6 0 < 50) (o1 : o = 1) (hw : tk (V r 5 0) = 318 ∨ tk (V r 5 0) = 327) : rd_pt o pl cd vl N lev V W r x a D d := by
  obtain ⟨T1, T2⟩ := rd_tT hi
  obtain ⟨i1, p1, S1, q1⟩ := rd_iN hi (by omega)
  obtain ⟨ts, cx, kx, h8, w8, at0⟩ := hi
  have a1 := at0.1
  have a4 := at0.2.2.2.1
  have a5 := at0.2.1
  have c5 := cx.2.2.2.2.1
  have w1 := @rd_w1 (tk (V r 5 0))
  obtain ⟨WL, l1, Lfr, L21, L19, L20, L10⟩ := m_leafs kx w8 at0 h50
  obtain ⟨cw, c14⟩ := tk_pw T1 hw
  have e1 := c_partP (D := D) (c_seen cx h8) h50 (by rw [cx.2.2.2.1, o1]; decide) hw
  obtain ⟨VL, eL, Fr, z5, z8, z7, z6, zx⟩ := c_word (V := V) c5 h8
  rw [eL, c_154x2, c14] at e1
  have k6 := kx.2.2.2.2.2 o1
  have e2 := m_partY (d := d) (lev := lev) kx w8 (by rw [a1]; exact tk_91q T1 (by omega)) (Or.inr ⟨by rw [a1]; omega, by rw [k6.1, k6.2, a1]; omega⟩) l1
  rw [if_neg (by rw [L10, o1]; decide), if_pos (by rw [a1]; exact cw)] at e2
  have cx2 := rd_cx_f cx Fr
  have kx2 := re_cx_f kx Lfr
  have gb : (0 : Int) ≤ (if cd (V r 5 0) = 14 then 5 else 14) ∧ (if cd (V r 5 0) = 14 then (5 : Int) else 14) ≤ 14 := by split <;> omega
  have tb := tk_bd S1
  by_cases hv : 400 ≤ tk (V r 5 0 + 1) ∧ tk (V r 5 0 + 1) ≤ 408
  · obtain ⟨cd5, vl5, -⟩ := tk_num S1 hv.1
    have vl5 := vl5 (by omega)
    have i2 : V r 5 0 + 1 < N := by
      have : V r 5 0 + 1 ≠ N := fun e => by rw [e, ts.2.1] at hv; omega
      omega
    have p2 := ((ts.2.2 (V r 5 0 + 1) (by omega) (by omega)).2.2 i2).2
    have q2 := (ts.2.2 (V r 5 0 + 1 + 1) (by omega) (by omega)).2.1
    have w2 := @rd_w1 (tk (V r 5 0 + 1))
    have en := c_num1 (V := VL) (l := 0) (m := 8) (n := tk (V r 5 0 + 1) - 400) cx2 z8 (by rw [z5]; omega) (by omega) (by omega) (by omega)
    rw [en] at e1
    dsimp only at e1
    have g14 : (2000 : Int) + (if cd (V r 5 0) = 14 then 5 else 14) + (tk (V r 5 0 + 1) - 400) = 2000 + ((if cd (V r 5 0) = 14 then 5 else 14) + vl (V r 5 0 + 1)) := by omega
    rw [if_pos (by omega), c_175px4 (by omega), u_j (by decide), cx2.2.2.1, g14] at e1
    have em := m_num1 (W := WL) (l := 0) (m := 8) kx2 L21 (by rw [L19]; exact cd5) (by rw [L19]; omega) (by rw [L19]; omega)
    rw [em] at e2
    have e2p : V r 5 0 + 2 = V r 5 0 + 1 + 1 := by omega
    exact ⟨_, _, _, _, e1, e2, rd_push (j := V r 5 0 + 2) (n := V r 6 0 + 1) (A := fun w => some (w ((if cd (V r 5 0) = 14 then 5 else 14) + vl (V r 5 0 + 1)))) c5 at0 h8 (rd_fr_t Fr (rd_fr_u (by decide))) (by rw [u_j (by decide), z7]) (by rw [u_j (by decide), z8]) (fun z => by rw [u_b c5, zx]) (by rw [u_b c5, zx]) (re_fr_t Lfr (re_fr_u (by decide))) (by show dv_u _ _ _ _ _ _ _ _ = _; rw [u_j (by decide), L21]) (by show dv_u _ _ _ _ _ _ _ _ = _; rw [u_e, L19]; omega) (by show dv_u _ _ _ _ _ _ _ _ = _; rw [u_j (by decide), L20]) (by rw [u_e, z5]; omega) (by rw [u_j (by decide), z6]) (by omega) (by omega) (by rw [e2p]; omega) (by rw [e2p]; omega) (Or.inr (Or.inr (Or.inl ⟨o1, cw, ⟨cd5, by omega, by omega⟩, rfl, rfl⟩))) (by omega) (fun X p hX => K_word hX (by omega) (by omega))⟩
  · have hp1 : pl (V r 5 0 + 1) ≠ -1 := by omega
    have en := c_num0 (V := VL) (l := 0) (m := 8) (n := tk (V r 5 0 + 1) - 400) cx2 (fun _ => ⟨by rw [z5]; omega, by omega⟩) (fun _ => by omega)
    rw [en] at e1
    dsimp only at e1
    rw [if_neg (fun q => q rfl), c_175nx4] at e1
    have hbad : cd (V r 5 0 + 1) ≠ 50 ∨ vl (V r 5 0 + 1) < 0 ∨ 8 < vl (V r 5 0 + 1) := by
      by_cases h4 : tk (V r 5 0 + 1) < 400
      · exact Or.inl (tk_non S1 h4)
      · have := tk_num S1 (by omega); omega
    have em := m_num0 (W := WL) (l := 0) (m := 8) kx2 L21 (by rw [L19]; exact hbad) (by rw [L19]; exact hp1)
    rw [em, L19] at e2
    obtain ⟨F1, F2, F3⟩ := c_failed cx (V2 := VL) Fr z7 z8
    rw [z5] at F3
    exact ⟨_, _, _, _, e1, e2, rd_bad F1 (re_fr_t Lfr (re_fr_u (by decide))) F2 F3 (by show dv_u _ _ _ _ _ _ _ _ = _; rw [u_e]) hp1⟩
theorem rd_leaf (hi : rd_in o tk pl cd vl N V W r x a) (h91 : tk (V r 5 0) ≠ 91) : rd_pt o pl cd vl N lev V W r x a D d := by
  have c4 := hi.2.1.2.2.2.1
  by_cases h50 : V r 6 0 < 50
  · by_cases hn : 400 ≤ tk (V r 5 0)
    · exact rd_ptM hi h50 hn
    · rcases hi.2.1.2.2.2.2.2 with o0 | o1
      · by_cases hw : 315 ≤ tk (V r 5 0) ∧ tk (V r 5 0) ≤ 322
        · exact rd_ptL hi h50 o0 hw
        · exact rd_ptN hi h91 h50 (by omega) (Or.inl ⟨by omega, by omega⟩)
      · by_cases hw : (323 ≤ tk (V r 5 0) ∧ tk (V r 5 0) ≤ 326) ∨ tk (V r 5 0) = 321
        · exact rd_ptO hi h50 o1 hw
        · by_cases hw2 : tk (V r 5 0) = 318 ∨ tk (V r 5 0) = 327
          · exact rd_ptP hi h50 o1 hw2
          · exact rd_ptN hi h91 h50 (by omega) (Or.inr ⟨by omega, by omega, by omega, by omega, by omega⟩)
  · exact rd_pt50 hi h91 h50
end QRQ
section QRB
variable {V V' V1 V2 W W' W1 : dV} {r x a i t c v o p N lev h h' : Int} {tk pl cd vl : Int → Int} {D d : Nat} {El El' : Int → Int → dn → Prop}
theorem K_seg_c {X X' : Int → Int} {p q h : Int} {A : dn} (hA : K_seg X p q A h) (k : ∀ z, p ≤ z → z < q → X' z = X z) : K_seg X' p q A h := by
  obtain ⟨h1, h2, f⟩ := hA
  refine ⟨h1, h2, fun V r x to t w cx hw => f V r x to t w ?_ hw⟩
  obtain ⟨g1, g2⟩ := cx
  exact ⟨fun i i0 i1 => by rw [g1 i i0 i1, k i i0 i1], g2⟩
theorem rd_out_m (ho : rd_out pl N h El V W r x a V' W') (hE : ∀ i j A, El i j A → El' i j A) (hh : h ≤ h') : rd_out pl N h' El' V W r x a V' W' := by
  obtain ⟨h1, h2, h3, h4, h5⟩ := ho
  refine ⟨h1, h2, h3, h4, fun q => ?_⟩
  obtain ⟨g1, g2, g3, g4, g5, g6, A, g7, g8⟩ := h5 q
  exact ⟨g1, g2, g3, g4, g5, g6, A, hE _ _ _ g7, K_seg_m g8 hh⟩
theorem c_open : f_X5_openBracket V r = if V r 7 0 < 8 then (dv_u (dv_u V r 7 0 (V r 7 0 + 1)) r 5 0 (V r 5 0 + 1), 1) else (V, 0) := by
  unfold f_X5_openBracket
  rw [bq]
  by_cases e : V r 7 0 < 8
  · rw [if_pos e, if_pos e, bq, bq, bq, bq, bq, bq, u_j (by decide)]
  · rw [if_neg e, if_neg e]
theorem c_part8 (cx : rd_cx o tk pl V r x) (h8 : V r 8 0 = -1) (h91 : tk (V r 5 0) = 91) (h7 : ¬ V r 7 0 < 8) : f_X5_readPart D V r = (dv_u V r 8 0 (pl (V r 5 0)), 0) := by
  have hs := c_seen cx h8
  rw [h91] at hs
  rw [f_X5_readPart_d]
  unfold f_X5_readPart_B
  rw [dv_bn2 hs, if_neg (by decide), c_open, if_neg h7, dv_bn2 rfl, if_pos rfl, dv_bn2 (c_take0 cx (fun _ => by rw [h91]; decide)), if_neg (by decide), dv_bn2 (c_fail cx h8)]
theorem c_part91 (cx : rd_cx o tk pl V r x) (h8 : V r 8 0 = -1) (h91 : tk (V r 5 0) = 91) (h7 : V r 7 0 < 8) {y y3 : Int} {V3 : dV} (hr : f_X5_readSum D (dv_u (dv_u V r 7 0 (V r 7 0 + 1)) r 5 0 (V r 5 0 + 1)) r = (V2, y)) (ht : f_X5_take (dv_u V2 r 7 0 (V2 r 7 0 - 1)) r 93 = (V3, y3)) : f_X5_readPart (D + 1) V r = if y3 ≠ 0 then (V3, 0) else ((f_X5_fail V3 r).1, 0) := by
  have hs := c_seen cx h8
  rw [h91] at hs
  have hr' : dv_pre (fun _ _ => dv_z) f_X5_readSum (D + 1) (dv_u (dv_u V r 7 0 (V r 7 0 + 1)) r 5 0 (V r 5 0 + 1)) r = (V2, y) := hr
  rw [f_X5_readPart_d]
  unfold f_X5_readPart_B
  rw [dv_bn2 hs, if_neg (by decide), c_open, if_pos h7, dv_bn2 rfl, if_neg (by decide), dv_bn2 hr', bq, bq, bq, dv_bn2 ht]
  by_cases e : y3 ≠ 0
  · rw [if_pos e, if_pos e]
  · rw [if_neg e, if_neg e, bq2]
/-- a PART is read the same way -/
theorem rd_part (ts : rd_ts tk pl cd vl N) (ih : ∀ d', d = d' + 1 → ∀ D', d' ≤ D' → rd_ok o tk pl cd vl N (8 - (d' : Int)) (2 * (d' : Int) + 3) (D_sum o cd vl d') (f_X5_readSum D') (f_X12_readSum d')) (hD : d ≤ D) : rd_ok o tk pl cd vl N (8 - (d : Int)) (2 * (d : Int) + 1) (D_part o cd vl d) (f_X5_readPart D) (f_X12_readPart d) := by
  intro V W r x a cx kx h7 hf hat
  by_cases h8 : V r 8 0 = -1
  · have w8 : W a 21 0 = -1 := hf.trans h8
    have at0 := hat h8
    have hi : rd_in o tk pl cd vl N V W r x a := ⟨ts, cx, kx, h8, w8, at0⟩
    by_cases h91 : tk (V r 5 0) = 91
    · obtain ⟨T1, T2⟩ := rd_tT hi
      have a1 := at0.1
      have a4 := at0.2.2.2.1
      have a2 := at0.2.1
      have c5 := cx.2.2.2.2.1
      have c191 : cd (W a 19 0) = 191 := by rw [a1]; exact (rd_sg T1 (b := 91) (by decide) (by decide)).mp h91
      obtain ⟨i1, p1, S1, q1⟩ := rd_iN hi (by omega)
      have w1 := @rd_w1 (tk (V r 5 0))
      cases d with
      | zero =>
        have e1 := c_part8 (D := D) cx h8 h91 (by omega)
        have e2 := m_part8 (d := 0) kx w8 c191 (by rw [a1]; omega)
        exact ⟨_, _, _, _, e1, e2, rd_bad (rd_fr_u (by decide)) (re_fr_u (by decide)) (by rw [u_j (by decide)]) u_e (by rw [u_e, a1]) (by omega)⟩
      | succ d =>
        obtain ⟨D, rfl⟩ : ∃ D', D = D' + 1 := ⟨D - 1, by omega⟩
        have hl : (8 : Int) - ((d + 1 : Nat) : Int) + 1 = 8 - (d : Int) := by omega
        have hl8 : (8 : Int) - ((d + 1 : Nat) : Int) ≠ 8 := by omega
        have F1 : rd_fr r x V (dv_u (dv_u V r 7 0 (V r 7 0 + 1)) r 5 0 (V r 5 0 + 1)) := rd_fr_t (rd_fr_u (by decide)) (rd_fr_u (by decide))
        have G1 : re_fr a W (dv_u W a 19 0 (W a 19 0 + 1)) := re_fr_u (by decide)
        have z5 : dv_u (dv_u V r 7 0 (V r 7 0 + 1)) r 5 0 (V r 5 0 + 1) r 5 0 = V r 5 0 + 1 := u_e
        have z6 : dv_u (dv_u V r 7 0 (V r 7 0 + 1)) r 5 0 (V r 5 0 + 1) r 6 0 = V r 6 0 := by rw [u_j (by decide), u_j (by decide)]
        have z7 : dv_u (dv_u V r 7 0 (V r 7 0 + 1)) r 5 0 (V r 5 0 + 1) r 7 0 = V r 7 0 + 1 := by rw [u_j (by decide), u_e]
        have z8 : dv_u (dv_u V r 7 0 (V r 7 0 + 1)) r 5 0 (V r 5 0 + 1) r 8 0 = -1 := by rw [u_j (by decide), u_j (by decide), h8]
        have zx : ∀ m z, dv_u (dv_u V r 7 0 (V r 7 0 + 1)) r 5 0 (V r 5 0 + 1) x m z = V x m z := fun m z => by rw [u_b c5, u_b c5]
        have y19 : dv_u W a 19 0 (W a 19 0 + 1) a 19 0 = V r 5 0 + 1 := by rw [u_e, a1]
        have y20 : dv_u W a 19 0 (W a 19 0 + 1) a 20 0 = V r 6 0 := by rw [u_j (by decide), at0.2.2.1]
        have y21 : dv_u W a 19 0 (W a 19 0 + 1) a 21 0 = -1 := by rw [u_j (by decide), w8]
        have m91 := m_part91 (d := d + 1) (lev := 8 - ((d + 1 : Nat) : Int)) kx w8 c191 hl8
        have C91 := fun (V2 V3 : dV) (y y3 : Int) => c_part91 (V2 := V2) (V3 := V3) (y := y) (y3 := y3) (D := D) cx h8 h91 (by omega)
        generalize dv_u (dv_u V r 7 0 (V r 7 0 + 1)) r 5 0 (V r 5 0 + 1) = V1 at F1 z5 z6 z7 z8 zx C91
        generalize dv_u W a 19 0 (W a 19 0 + 1) = W1 at G1 y19 y20 y21 m91
        have at1 : rd_at pl N V1 W1 r x a := ⟨by rw [y19, z5], by rw [z5]; omega, by rw [y20, z6], by rw [z6]; omega, by rw [zx]; exact at0.2.2.2.2.1, by rw [zx, z5]; have := at0.2.2.2.2.2; omega⟩
        obtain ⟨V2, y, W2, y', e1, e2, o1, o2, o3, o4, o5⟩ := ih d rfl D (by omega) V1 W1 r x a (rd_cx_f cx F1) (re_cx_f kx G1) (by rw [z7]; omega) (by rw [y21, z8]) (fun _ => at1)
        have m2 : dv_pre (fun _ _ _ => dv_z) f_X12_readSum (d + 1) W1 a (8 - ((d + 1 : Nat) : Int) + 1) = (W2, y') := by rw [hl]; exact e2
        rw [m2] at m91
        dsimp only at m91
        have F2 := rd_fr_t F1 o1
        have G2 := re_fr_t G1 o2
        have F3 : rd_fr r x V (dv_u V2 r 7 0 (V2 r 7 0 - 1)) := rd_fr_t F2 (rd_fr_u (by decide))
        have x7 : dv_u V2 r 7 0 (V2 r 7 0 - 1) r 7 0 = V r 7 0 := by rw [u_e, o3, z7]; omega
        have x8 : dv_u V2 r 7 0 (V2 r 7 0 - 1) r 8 0 = V2 r 8 0 := by rw [u_j (by decide)]
        have x5 : dv_u V2 r 7 0 (V2 r 7 0 - 1) r 5 0 = V2 r 5 0 := by rw [u_j (by decide)]
        have x6 : dv_u V2 r 7 0 (V2 r 7 0 - 1) r 6 0 = V2 r 6 0 := by rw [u_j (by decide)]
        have xx : ∀ m z, dv_u V2 r 7 0 (V2 r 7 0 - 1) x m z = V2 x m z := fun m z => by rw [u_b c5]
        have C92 := fun (V3 : dV) (y3 : Int) => C91 V2 V3 y y3 e1
        generalize dv_u V2 r 7 0 (V2 r 7 0 - 1) = V3 at F3 x7 x8 x5 x6 xx C92
        have cx3 := rd_cx_f cx F3
        have kx2 := re_cx_f kx G2
        by_cases g8 : V2 r 8 0 = -1
        · obtain ⟨p8, at2, p5, px, pp, pz, A, pA, pK⟩ := o5 g8
          have w28 : W2 a 21 0 = -1 := o4.trans g8
          obtain ⟨U1, U2⟩ := rd_tT (⟨ts, rd_cx_f cx F2, kx2, g8, w28, at2⟩ : rd_in o tk pl cd vl N V2 W2 r x a)
          by_cases h93 : tk (V2 r 5 0) = 93
          · obtain ⟨j1, r1, R1, s1⟩ := rd_iN (⟨ts, rd_cx_f cx F2, kx2, g8, w28, at2⟩ : rd_in o tk pl cd vl N V2 W2 r x a) (by omega)
            have v1 := @rd_w1 (tk (V2 r 5 0))
            have e3 := C92 _ _ (c_take1 cx3 (x8.trans g8) (by rw [x5]; exact h93))
            rw [if_pos (by decide), x5] at e3
            have c193 : cd (V2 r 5 0) = 193 := (rd_sg U1 (b := 93) (by decide) (by decide)).mp h93
            rw [m_must1 kx2 w28 (by rw [at2.1]; exact c193)] at m91
            dsimp only at m91
            refine ⟨_, _, _, _, e3, m91, rd_fr_t F3 (rd_fr_u (by decide)), re_fr_t G2 (re_fr_u (by decide)), by rw [u_j (by decide), x7], by rw [u_j (by decide), u_j (by decide), x8, o4], fun _ => ⟨h8, ⟨by rw [u_e, u_e, at2.1], by rw [u_e]; have := at2.2.1; omega, by rw [u_j (by decide), u_j (by decide), x6, at2.2.2.1], by rw [u_j (by decide), x6]; exact at2.2.2.2.1, by rw [u_b c5, xx]; exact at2.2.2.2.2.1, ?_⟩, ?_, ?_, ?_, fun z hz => ?_, A, ?_, ?_⟩⟩
            · rw [u_b c5, xx, u_e]; have := at2.2.2.2.2.2; omega
            · rw [u_e]; rw [z5] at p5; omega
            · rw [u_b c5, xx]; rw [zx] at px; omega
            · rw [u_b c5, xx, u_e]; rw [zx, z5] at pp; omega
            · rw [u_b c5, xx, pz z (by rw [zx]; exact hz), zx]
            · rw [u_e]
              refine Or.inr ⟨by rw [← a1]; exact c191, ?_, ?_⟩
              · rw [show V2 r 5 0 + 1 - 1 = V2 r 5 0 by omega, ← z5]; exact pA
              · rw [show V2 r 5 0 + 1 - 1 = V2 r 5 0 by omega]; exact c193
            · rw [u_b c5, xx]
              rw [zx] at pK
              exact K_seg_c (K_seg_m pK (by omega)) (fun z _ _ => by rw [u_b c5, xx])
          · have e3 := C92 _ _ (c_take0 cx3 (fun _ => by rw [x5]; exact h93))
            rw [if_neg (fun q => q rfl), c_fail cx3 (x8.trans g8), x5] at e3
            have c193 : cd (W2 a 19 0) ≠ 193 := by rw [at2.1]; exact fun q => h93 ((rd_sg U1 (b := 93) (by decide) (by decide)).mpr q)
            rw [m_must0 kx2 w28 c193, at2.1] at m91
            exact ⟨_, _, _, _, e3, m91, rd_bad (rd_fr_t F3 (rd_fr_u (by decide))) (re_fr_t G2 (re_fr_u (by decide))) (by show dv_u _ _ _ _ _ _ _ _ = _; rw [u_j (by decide), x7]) (by show dv_u _ _ _ _ _ _ _ _ = _; rw [u_e]) (by show dv_u _ _ _ _ _ _ _ _ = _; rw [u_e]) (by omega)⟩
        · have e3 := C92 _ _ (c_take0 cx3 (fun q => absurd (x8.symm.trans q) g8))
          rw [if_neg (fun q => q rfl), c_fail_f (by rw [x8]; exact g8)] at e3
          rw [m_must_f kx2 (by rw [o4]; exact g8)] at m91
          exact ⟨_, _, _, _, e3, m91, rd_bad F3 G2 x7 x8 o4 g8⟩
    · obtain ⟨V', y, W', y', e1, e2, ho⟩ := rd_leaf (lev := 8 - (d : Int)) (D := D) (d := d) hi h91
      refine ⟨V', y, W', y', e1, e2, rd_out_m ho (fun i j A hE => ?_) (by omega)⟩
      cases d with
      | zero => exact hE
      | succ d => exact Or.inl hE
  · obtain ⟨V', e1, f1, g8, g7⟩ := c_part_f (D := D) h8
    exact ⟨V', 0, W, 0, e1, m_part_f (by rw [hf]; exact h8), rd_bad f1 re_fr_r g7 g8 hf h8⟩
end QRB
section QRS
variable {V V' V1 V2 W W' W1 : dV} {r x a i t c v o p N lev h h' oc cnt : Int} {tk pl cd vl : Int → Int} {D d e : Nat} {P El El' : Int → Int → dn → Prop} {fC : dV → Int → dR} {fR : dV → Int → Int → dR}
theorem c_codeOf : f_X5_codeOf V t = (if t = 43 then 3000 else if t = 45 then 3001 else if t = 42 then 3002 else if t = 47 then 3003 else if t = 37 then 3004 else -1, ()) := by
  unfold f_X5_codeOf
  have h : t = 37 ∨ t = 42 ∨ t = 43 ∨ t = 45 ∨ t = 47 ∨ (t ≠ 37 ∧ t ≠ 42 ∧ t ≠ 43 ∧ t ≠ 45 ∧ t ≠ 47) := by omega
  rcases h with rfl | rfl | rfl | rfl | rfl | ⟨h1, h2, h3, h4, h5⟩
  · rfl
  · rfl
  · rfl
  · rfl
  · rfl
  · rw [if_neg h1, if_neg h2, if_neg h3, if_neg h4, if_neg h5, if_neg h1, if_neg h2, if_neg h3, if_neg h4, if_neg h5]
    split
    · rfl
    · split
      · rfl
      · split
        · rfl
        · split
          · rfl
          · split
            · rfl
            · split <;> rfl
-- the class's loop
theorem c_8_end (hs : f_X5_seenToken V r = (t, ())) (ht : t ≠ 43 ∧ t ≠ 45 ∧ t ≠ 42 ∧ t ≠ 47 ∧ t ≠ 37) : dv_lp (f_X5_readSum_8b D fC) (V, r, oc, cnt) = ((f_X10_add V (V r 3 0) oc).1, 0) := by
  obtain ⟨h1, h2, h3, h4, h5⟩ := ht
  refine dv_lp_e ?_
  rw [f_X5_readSum_8e]
  unfold f_X5_readSum_8c f_X5_readSum_90
  have q : f_X5_codeOf V t = (-1, ()) := by rw [c_codeOf, if_neg h1, if_neg h2, if_neg h3, if_neg h4, if_neg h5]
  by_cases k : 400 ≤ cnt
  · rw [if_pos k, bq, bq2]
  · rw [if_neg k, dv_bn2 hs, dv_bn2 q, if_neg (fun z => z rfl), bq, bq2]
theorem c_8_mul (hs : f_X5_seenToken V r = (t, ())) (hk : cnt < 400) (ht : t = 42 ∧ c = 142 ∨ t = 47 ∧ c = 147 ∨ t = 37 ∧ c = 137) {y : Int} (hr : fC (dv_u V r 5 0 (V r 5 0 + 1)) r = (V2, y)) : dv_lp (f_X5_readSum_8b D fC) (V, r, oc, cnt) = dv_lp (f_X5_readSum_8b D fC) ((f_X10_add V2 (V2 r 3 0) (k_sg c)).1, r, oc, cnt + 1) := by
  refine dv_lp_s ?_
  rw [f_X5_readSum_8e]
  unfold f_X5_readSum_8c f_X5_readSum_84
  have q : f_X5_codeOf V t = (k_sg c, ()) := by
    rw [c_codeOf]
    rcases ht with ⟨rfl, rfl⟩ | ⟨rfl, rfl⟩ | ⟨rfl, rfl⟩ <;> rfl
  have q1 : k_sg c ≠ -1 ∧ k_sg c ≠ 3000 ∧ k_sg c ≠ 3001 := by
    rcases ht with ⟨rfl, rfl⟩ | ⟨rfl, rfl⟩ | ⟨rfl, rfl⟩ <;> decide
  rw [if_neg (by omega), dv_bn2 hs, dv_bn2 q, if_pos q1.1, bq, bq, bq, if_neg q1.2.1, if_pos q1.2.2, dv_bn2 hr, bq, bq2, bq]
theorem c_8_add (cx : rd_cx o tk pl V r x) (hs : f_X5_seenToken V r = (t, ())) (hk : cnt < 400) (ht : t = 43 ∧ c = 143 ∨ t = 45 ∧ c = 145) {y : Int} (ha : f_X10_add (dv_u V r 5 0 (V r 5 0 + 1)) x oc = (V1, 0)) (hr : fC V1 r = (V2, y)) : dv_lp (f_X5_readSum_8b D fC) (V, r, oc, cnt) = dv_lp (f_X5_readSum_8b D fC) (V2, r, k_sg c, cnt + 1) := by
  refine dv_lp_s ?_
  rw [f_X5_readSum_8e]
  unfold f_X5_readSum_8c f_X5_readSum_84
  have q : f_X5_codeOf V t = (k_sg c, ()) := by
    rw [c_codeOf]
    rcases ht with ⟨rfl, rfl⟩ | ⟨rfl, rfl⟩ <;> rfl
  have c3 : dv_u V r 5 0 (V r 5 0 + 1) r 3 0 = x := by rw [u_j (by decide)]; exact cx.2.2.1
  rw [if_neg (by omega), dv_bn2 hs, dv_bn2 q]
  rcases ht with ⟨rfl, rfl⟩ | ⟨rfl, rfl⟩
  · rw [if_pos (by decide), bq, bq, bq, if_pos (by decide), bq, c3, dv_bn2 ha, dv_bn2 hr, bq]
  · rw [if_pos (by decide), bq, bq, bq, if_neg (by decide), if_neg (by decide), bq, c3, dv_bn2 ha, dv_bn2 hr, bq]
-- the reference's loops
theorem m_t_end (k : re_cx o cd vl pl W a) (hc : W a 21 0 = -1 → ¬ d_mul (cd (W a 19 0))) : dv_lp (f_X12_readTerm_5b e fR) (W, a, lev) = (W, 0) := by
  unfold d_mul at hc
  refine dv_lp_e ?_
  rw [f_X12_readTerm_5e]
  unfold f_X12_readTerm_5c
  rw [dv_bn2 q_sign, dv_bn2 (m_take0 k (fun q => by have := hc q; omega)), if_neg (fun q => q rfl), dv_bn2 q_sign, dv_bn2 (m_take0 k (fun q => by have := hc q; omega)), if_neg (fun q => q rfl), dv_bn2 q_sign, dv_bn2 (m_take0 k (fun q => by have := hc q; omega)), if_pos rfl]
theorem m_t_mul (k : re_cx o cd vl pl W a) (w8 : W a 21 0 = -1) (hc : d_mul (cd (W a 19 0))) {y : Int} (hr : fR (dv_u W a 19 0 (W a 19 0 + 1)) a lev = (W1, y)) : dv_lp (f_X12_readTerm_5b e fR) (W, a, lev) = dv_lp (f_X12_readTerm_5b e fR) (W1, a, lev) := by
  refine dv_lp_s ?_
  rw [f_X12_readTerm_5e]
  unfold f_X12_readTerm_5c
  rw [dv_bn2 q_sign]
  rcases hc with hc | hc | hc
  · rw [dv_bn2 (m_take1 k w8 (by omega)), if_pos (by decide), dv_bn2 hr]
  · rw [dv_bn2 (m_take0 k (fun _ => by omega)), if_neg (fun q => q rfl), dv_bn2 q_sign, dv_bn2 (m_take1 k w8 (by omega)), if_pos (by decide), dv_bn2 hr]
  · rw [dv_bn2 (m_take0 k (fun _ => by omega)), if_neg (fun q => q rfl), dv_bn2 q_sign, dv_bn2 (m_take0 k (fun _ => by omega)), if_neg (fun q => q rfl), dv_bn2 q_sign, dv_bn2 (m_take1 k w8 (by omega)), if_neg (by decide), dv_bn2 hr]
theorem m_s_end (k : re_cx o cd vl pl W a) (hc : W a 21 0 = -1 → ¬ d_add (cd (W a 19 0))) : dv_lp (f_X12_readSum_5b e fR) (W, a, lev) = (W, 0) := by
  unfold d_add at hc
  refine dv_lp_e ?_
  rw [f_X12_readSum_5e]
  unfold f_X12_readSum_5c
  rw [dv_bn2 q_sign, dv_bn2 (m_take0 k (fun q => by have := hc q; omega)), if_neg (fun q => q rfl), dv_bn2 q_sign, dv_bn2 (m_take0 k (fun q => by have := hc q; omega)), if_pos rfl]
theorem m_s_add (k : re_cx o cd vl pl W a) (w8 : W a 21 0 = -1) (hc : d_add (cd (W a 19 0))) {y : Int} (hr : fR (dv_u W a 19 0 (W a 19 0 + 1)) a lev = (W1, y)) : dv_lp (f_X12_readSum_5b e fR) (W, a, lev) = dv_lp (f_X12_readSum_5b e fR) (W1, a, lev) := by
  refine dv_lp_s ?_
  rw [f_X12_readSum_5e]
  unfold f_X12_readSum_5c
  rw [dv_bn2 q_sign]
  rcases hc with hc | hc
  · rw [dv_bn2 (m_take1 k w8 (by omega)), if_pos (by decide), dv_bn2 hr]
  · rw [dv_bn2 (m_take0 k (fun _ => by omega)), if_neg (fun q => q rfl), dv_bn2 q_sign, dv_bn2 (m_take1 k w8 (by omega)), if_neg (by decide), dv_bn2 hr]
-- what has been read so far
def rd_pd (d : Nat) (X : Int → Int) (p0 q oc : Int) (cb : dn → dn) (T : dn) : Prop := (oc = -1 ∧ (cb = fun T' => T') ∧ K_seg X p0 q T (2 * (d : Int) + 2)) ∨ ∃ (c m : Int) (S : dn), d_add c ∧ oc = k_sg c ∧ (cb = fun T' => d_op c S T') ∧ K_seg X p0 m S (2 * (d : Int) + 3) ∧ d_in S ∧ K_seg X m q T (2 * (d : Int) + 2)
theorem rd_pd_mul {X X' : Int → Int} {p0 q q1 oc c : Int} {cb : dn → dn} {T B : dn} (h : rd_pd d X p0 q oc cb T) (hX : ∀ z, p0 ≤ z → z < q → X' z = X z) (hB : K_seg X' q q1 B (2 * (d : Int) + 1)) (hc : X' q1 = k_sg c) (hm : d_mul c) (iT : d_in T) (iB : d_in B) : rd_pd d X' p0 (q1 + 1) oc cb (d_op c T B) := by
  rcases h with ⟨h1, h2, h3⟩ | ⟨c0, m, S, h1, h2, h3, h4, h5, h6⟩
  · exact Or.inl ⟨h1, h2, K_op (K_seg_c h3 hX) hB hc (Or.inl hm) iT iB (by omega) (by omega)⟩
  · refine Or.inr ⟨c0, m, S, h1, h2, h3, K_seg_c h4 (fun z z0 z1 => hX z z0 (by have := h6.1; omega)), h5, K_op (K_seg_c h6 (fun z z0 z1 => hX z (by have := h4.1; omega) z1)) hB hc (Or.inl hm) iT iB (by omega) (by omega)⟩
theorem rd_close {p0 : Int} {cb : dn → dn} {T : dn} (c5 : x ≠ r) (h : rd_pd d (V x 0) p0 (V x 2 0) oc cb T) (iT : d_in T) (hq : V x 2 0 + (if oc = -1 then 0 else 1) ≤ 400) : ∃ V', f_X10_add V x oc = (V', 0) ∧ rd_fr r x V V' ∧ (∀ j z, V' r j z = V r j z) ∧ V' x 2 0 = V x 2 0 + (if oc = -1 then 0 else 1) ∧ (∀ z, z < V x 2 0 → V' x 0 z = V x 0 z) ∧ K_seg (V' x 0) p0 (V' x 2 0) (cb T) (2 * (d : Int) + 3) ∧ d_in (cb T) := by
  rcases h with ⟨h1, h2, h3⟩ | ⟨c0, m, S, h1, h2, h3, h4, h5, h6⟩
  · rw [h1, h2, if_pos rfl, Int.add_zero]
    exact ⟨V, c_add_n, rd_fr_r, fun _ _ => rfl, rfl, fun _ _ => rfl, K_seg_m h3 (by omega), iT⟩
  · have ho : oc ≠ -1 := by have := k_sg_in c0; omega
    rw [if_neg ho] at hq ⊢
    refine ⟨_, c_add ho (by omega), rd_fr_t (rd_fr_x (by decide)) (rd_fr_x (by decide)), fun j z => by rw [u_b (Ne.symm c5), u_b (Ne.symm c5)], u_e, fun z hz => by rw [u_j (by decide), u_i (by omega)], ?_, ?_⟩
    · rw [u_e, h3]
      have hX : ∀ z, z < V x 2 0 → dv_u (dv_u V x 0 (V x 2 0) oc) x 2 0 (V x 2 0 + 1) x 0 z = V x 0 z := fun z hz => by rw [u_j (by decide), u_i (by omega)]
      refine K_op (K_seg_c h4 (fun z _ z1 => hX z (by have := h6.1; omega))) (K_seg_c h6 (fun z _ z1 => hX z z1)) ?_ (Or.inr h1) h5 iT (by omega) (by omega)
      rw [u_j (by decide), u_e, h2]
    · rw [h3]; exact d_op_in
def rd_g (cd : Int → Int) (P : Int → Int → dn → Prop) (i0 : Int) (cb : dn → dn) (T : dn) (i : Int) : Prop := ∀ (n : Nat) (j : Int) (T' : dn), d_ch d_mul cd P d_op n i T j T' → ∀ (n' : Nat) (k : Int) (R : dn), d_ch d_add cd (D_termF cd P) d_op n' j (cb T') k R → D_sumF cd P i0 k R
theorem rd_g_start {i0 : Int} {T : dn} (h : P i0 i T) : rd_g cd P i0 (fun T' => T') T i := fun n j T' h1 n' k R h2 => ⟨j, T', n', ⟨i, T, n, h, h1⟩, h2⟩
theorem rd_g_mul {i0 m : Int} {cb : dn → dn} {T B : dn} (h : rd_g cd P i0 cb T i) (hm : d_mul (cd i)) (hB : P (i + 1) m B) : rd_g cd P i0 cb (d_op (cd i) T B) m := fun n j T' h1 => h (n + 1) j T' ⟨hm, m, B, hB, h1⟩
theorem rd_g_add {i0 m : Int} {cb : dn → dn} {T B : dn} (h : rd_g cd P i0 cb T i) (hm : ¬ d_mul (cd i)) (ha : d_add (cd i)) (hB : P (i + 1) m B) : rd_g cd P i0 (fun T' => d_op (cd i) (cb T) T') B m := fun n j T' h1 n' k R h2 => h 0 i T ⟨rfl, rfl, hm⟩ (n' + 1) k R ⟨ha, j, T', ⟨m, B, n, hB, h1⟩, h2⟩
theorem rd_g_end {i0 : Int} {cb : dn → dn} {T : dn} (h : rd_g cd P i0 cb T i) (hm : ¬ d_mul (cd i)) (ha : ¬ d_add (cd i)) : D_sumF cd P i0 i (cb T) := h 0 i T ⟨rfl, rfl, hm⟩ 0 i (cb T) ⟨rfl, rfl, ha⟩
end QRS
section QRU
variable {V V' V1 V2 W W' W1 : dV} {r x a i t c v o p N lev h h' oc cnt : Int} {tk pl cd vl : Int → Int} {D d e : Nat} {P El El' : Int → Int → dn → Prop} {fC : dV → Int → dR} {fR : dV → Int → Int → dR}
theorem tk_mul (T : rd_tk t c v) : d_mul c ↔ (t = 42 ∧ c = 142 ∨ t = 47 ∧ c = 147 ∨ t = 37 ∧ c = 137) := by unfold rd_tk rd_wp at T; unfold d_mul; omega
theorem tk_add (T : rd_tk t c v) : d_add c ↔ (t = 43 ∧ c = 143 ∨ t = 45 ∧ c = 145) := by unfold rd_tk rd_wp at T; unfold d_add; omega
theorem tk_end (T : rd_tk t c v) (hm : ¬ d_mul c) (ha : ¬ d_add c) : t ≠ 43 ∧ t ≠ 45 ∧ t ≠ 42 ∧ t ≠ 47 ∧ t ≠ 37 := by
  unfold rd_tk rd_wp at T
  unfold d_mul at hm
  unfold d_add at ha
  omega
/-- behind a fault the loops end -/
theorem rd_sumF (cx : rd_cx o tk pl V r x) (kx : re_cx o cd vl pl W a) (h8 : V r 8 0 ≠ -1) (w8 : W a 21 0 ≠ -1) : ∃ V', dv_lp (f_X5_readSum_8b D fC) (V, r, oc, cnt) = (V', 0) ∧ dv_lp (f_X12_readTerm_5b e fR) (W, a, lev) = (W, 0) ∧ dv_lp (f_X12_readSum_5b e (f_X12_readTerm_B e fR)) (W, a, lev) = (W, 0) ∧ rd_fr r x V V' ∧ ∀ j z, V' r j z = V r j z := by
  obtain ⟨V', e1, f1, g1⟩ := c_add_f (V := V) (x := x) (c := oc) (r := r)
  refine ⟨V', ?_, m_t_end kx (fun q => absurd q w8), m_s_end kx (fun q => absurd q w8), f1, fun j z => g1 j z cx.2.2.2.2.1⟩
  rw [c_8_end (c_seen_f h8) (by decide), cx.2.2.1, e1]
theorem rd_sumL (ts : rd_ts tk pl cd vl N) (hP : rd_ok o tk pl cd vl N lev (2 * (d : Int) + 1) P fC fR) (hin : ∀ i j A, P i j A → d_in A) (n : Nat) : ∀ (V W : dV) (r x a oc cnt p0 i0 : Int) (cb : dn → dn) (T : dn), rd_in o tk pl cd vl N V W r x a → V r 7 0 = lev → N - V r 5 0 ≤ n → cnt < V r 5 0 → V x 2 0 + (if oc = -1 then 0 else 1) ≤ pl (V r 5 0) → p0 < V x 2 0 → rd_pd d (V x 0) p0 (V x 2 0) oc cb T → d_in T → rd_g cd P i0 cb T (V r 5 0) → ∃ (V' : dV) (y : Int) (W1 : dV) (y1 : Int) (W' : dV) (y' : Int), dv_lp (f_X5_readSum_8b D fC) (V, r, oc, cnt) = (V', y) ∧ dv_lp (f_X12_readTerm_5b e fR) (W, a, lev) = (W1, y1) ∧ dv_lp (f_X12_readSum_5b e (f_X12_readTerm_B e fR)) (W1, a, lev) = (W', y') ∧ rd_fr r x V V' ∧ re_fr a W W' ∧ V' r 7 0 = V r 7 0 ∧ W' a 21 0 = V' r 8 0 ∧ (V' r 8 0 = -1 → rd_at pl N V' W' r x a ∧ V r 5 0 ≤ V' r 5 0 ∧ V x 2 0 ≤ V' x 2 0 ∧ V' x 2 0 - V x 2 0 ≤ pl (V' r 5 0) - pl (V r 5 0) + (if oc = -1 then 0 else 1) ∧ (∀ z, z < p0 → V' x 0 z = V x 0 z) ∧ ∃ A, D_sumF cd P i0 (V' r 5 0) A ∧ K_seg (V' x 0) p0 (V' x 2 0) A (2 * (d : Int) + 3)) := by
  induction n using Nat.strongRecOn with
  | ind n ih =>
  intro V W r x a oc cnt p0 i0 cb T hi h7 hn hk hs hp pd iT g
  obtain ⟨T1, T2⟩ := rd_tT hi
  have hiN := rd_iN hi
  obtain ⟨-, cx, kx, h8, w8, at0⟩ := id hi
  obtain ⟨a1, a2, a3, a4, a5, a6⟩ := id at0
  have c5 := cx.2.2.2.2.1
  have w1 := @rd_w1 (tk (V r 5 0))
  have seen := c_seen cx h8
  have tN := ts.1
  by_cases hm : d_mul (cd (V r 5 0))
  · -- times, by, the rest
    have ht := (tk_mul T1).mp hm
    obtain ⟨i1, p1, S1, q1⟩ := hiN (by omega)
    have F1 : rd_fr r x V (dv_u V r 5 0 (V r 5 0 + 1)) := rd_fr_u (by decide)
    have G1 : re_fr a W (dv_u W a 19 0 (W a 19 0 + 1)) := re_fr_u (by decide)
    have z5 : dv_u V r 5 0 (V r 5 0 + 1) r 5 0 = V r 5 0 + 1 := u_e
    have z6 : dv_u V r 5 0 (V r 5 0 + 1) r 6 0 = V r 6 0 := u_j (by decide)
    have z7 : dv_u V r 5 0 (V r 5 0 + 1) r 7 0 = V r 7 0 := u_j (by decide)
    have z8 : dv_u V r 5 0 (V r 5 0 + 1) r 8 0 = -1 := by rw [u_j (by decide), h8]
    have zx : ∀ m z, dv_u V r 5 0 (V r 5 0 + 1) x m z = V x m z := fun m z => u_b c5
    have y19 : dv_u W a 19 0 (W a 19 0 + 1) a 19 0 = V r 5 0 + 1 := by rw [u_e, a1]
    have y20 : dv_u W a 19 0 (W a 19 0 + 1) a 20 0 = V r 6 0 := by rw [u_j (by decide), a3]
    have y21 : dv_u W a 19 0 (W a 19 0 + 1) a 21 0 = -1 := by rw [u_j (by decide), w8]
    have C1 := fun (V2 : dV) (y : Int) => c_8_mul (V2 := V2) (D := D) (fC := fC) (oc := oc) (cnt := cnt) (c := cd (V r 5 0)) (y := y) seen (by omega) ht
    have R1 := fun (W2 : dV) (y : Int) => m_t_mul (W1 := W2) (e := e) (fR := fR) (lev := lev) (y := y) kx w8 (by rw [a1]; exact hm)
    generalize dv_u V r 5 0 (V r 5 0 + 1) = V1 at F1 z5 z6 z7 z8 zx C1
    generalize dv_u W a 19 0 (W a 19 0 + 1) = W1 at G1 y19 y20 y21 R1
    have at1 : rd_at pl N V1 W1 r x a := ⟨by rw [y19, z5], by rw [z5]; omega, by rw [y20, z6], by rw [z6]; omega, by rw [zx]; exact a5, by rw [zx, z5]; omega⟩
    obtain ⟨V2, y, W2, y', e1, e2, o1, o2, o3, o4, o5⟩ := hP V1 W1 r x a (rd_cx_f cx F1) (re_cx_f kx G1) (by rw [z7, h7]) (by rw [y21, z8]) (fun _ => at1)
    have C2 := C1 V2 y e1
    have R2 := R1 W2 y' e2
    have F2 := rd_fr_t F1 o1
    have G2 := re_fr_t G1 o2
    have cx2 := rd_cx_f cx F2
    have kx2 := re_cx_f kx G2
    rw [cx2.2.2.1] at C2
    by_cases g8 : V2 r 8 0 = -1
    · obtain ⟨p8, at2, p5, px, pp, pz, B, pB, pK⟩ := o5 g8
      obtain ⟨b1, b2, b3, b4, b5, b6⟩ := id at2
      have T3 := (ts.2.2 (V2 r 5 0) b2.1 b2.2).2.1
      rw [z5] at p5 pp pB
      rw [zx] at px pp pz pK
      have sz : V2 x 2 0 < 400 := by split at hs <;> omega
      have ic := (k_sg_in (cd (V r 5 0))).1
      have c1 : k_sg (cd (V r 5 0)) ≠ -1 := by omega
      rw [c_add c1 sz] at C2
      dsimp only at C2
      have F3 : rd_fr r x V (dv_u (dv_u V2 x 0 (V2 x 2 0) (k_sg (cd (V r 5 0)))) x 2 0 (V2 x 2 0 + 1)) := rd_fr_t F2 (rd_fr_t (rd_fr_x (by decide)) (rd_fr_x (by decide)))
      have v3r : ∀ m z, dv_u (dv_u V2 x 0 (V2 x 2 0) (k_sg (cd (V r 5 0)))) x 2 0 (V2 x 2 0 + 1) r m z = V2 r m z := fun m z => by rw [u_b (Ne.symm c5), u_b (Ne.symm c5)]
      have v32 : dv_u (dv_u V2 x 0 (V2 x 2 0) (k_sg (cd (V r 5 0)))) x 2 0 (V2 x 2 0 + 1) x 2 0 = V2 x 2 0 + 1 := u_e
      have v3c : dv_u (dv_u V2 x 0 (V2 x 2 0) (k_sg (cd (V r 5 0)))) x 2 0 (V2 x 2 0 + 1) x 0 (V2 x 2 0) = k_sg (cd (V r 5 0)) := by rw [u_j (by decide), u_e]
      have v3z : ∀ z, z < V2 x 2 0 → dv_u (dv_u V2 x 0 (V2 x 2 0) (k_sg (cd (V r 5 0)))) x 2 0 (V2 x 2 0 + 1) x 0 z = V2 x 0 z := fun z hz => by rw [u_j (by decide), u_i (by omega)]
      generalize dv_u (dv_u V2 x 0 (V2 x 2 0) (k_sg (cd (V r 5 0)))) x 2 0 (V2 x 2 0 + 1) = V3 at C2 F3 v3r v32 v3c v3z
      have at3 : rd_at pl N V3 W2 r x a := ⟨by rw [v3r]; exact b1, by rw [v3r]; exact b2, by rw [v3r]; exact b3, by rw [v3r]; exact b4, by rw [v32]; omega, by rw [v32, v3r]; split at hs <;> omega⟩
      have pd3 : rd_pd d (V3 x 0) p0 (V3 x 2 0) oc cb (d_op (cd (V r 5 0)) T B) := by
        rw [v32]
        exact rd_pd_mul pd (fun z _ z1 => by rw [v3z z (by omega), pz z z1, zx]) (K_seg_c pK (fun z _ z1 => v3z z z1)) v3c hm iT (hin _ _ _ pB)
      obtain ⟨V', u, Wt, ut, W', u', L1, L2, L3, L4, L5, L6, L7, L8⟩ := ih (n - 1) (by omega) V3 W2 r x a oc (cnt + 1) p0 i0 cb (d_op (cd (V r 5 0)) T B) ⟨ts, rd_cx_f cx F3, kx2, by rw [v3r]; exact g8, o4.trans g8, at3⟩ (by rw [v3r, o3, z7, h7]) (by rw [v3r]; omega) (by rw [v3r]; omega) (by rw [v32, v3r]; omega) (by rw [v32]; omega) pd3 d_op_in (by rw [v3r]; exact rd_g_mul g hm pB)
      refine ⟨V', u, Wt, ut, W', u', C2.trans L1, R2.trans L2, L3, rd_fr_t F3 L4, re_fr_t G2 L5, by rw [L6, v3r, o3, z7], L7, fun q => ?_⟩
      obtain ⟨M1, M2, M3, M4, M5, M6⟩ := L8 q
      rw [v3r] at M2 M4
      rw [v32] at M3 M4
      exact ⟨M1, by omega, by omega, by omega, fun z hz => by rw [M5 z hz, v3z z (by omega), pz z (by omega), zx], M6⟩
    · obtain ⟨V3, e3, f3, v3r⟩ := c_add_f (V := V2) (x := x) (c := k_sg (cd (V r 5 0))) (r := r)
      have v3r : ∀ j z, V3 r j z = V2 r j z := fun j z => v3r j z c5
      rw [e3] at C2
      dsimp only at C2
      obtain ⟨V', L1, L2, L3, L4, L5⟩ := rd_sumF (D := D) (e := e) (fC := fC) (fR := fR) (lev := lev) (oc := oc) (cnt := cnt + 1) (rd_cx_f cx2 f3) kx2 (by rw [v3r]; exact g8) (by rw [o4]; exact g8)
      refine ⟨V', 0, W2, 0, W2, 0, C2.trans L1, R2.trans L2, L3, rd_fr_t F2 (rd_fr_t f3 L4), G2, by rw [L5, v3r, o3, z7], by rw [L5, v3r, o4], fun q => ?_⟩
      rw [L5, v3r] at q
      exact absurd q g8
  · by_cases ha : d_add (cd (V r 5 0))
    · -- and, less
      have ht := (tk_add T1).mp ha
      obtain ⟨i1, p1, S1, q1⟩ := hiN (by omega)
      have F1 : rd_fr r x V (dv_u V r 5 0 (V r 5 0 + 1)) := rd_fr_u (by decide)
      have G1 : re_fr a W (dv_u W a 19 0 (W a 19 0 + 1)) := re_fr_u (by decide)
      have z5 : dv_u V r 5 0 (V r 5 0 + 1) r 5 0 = V r 5 0 + 1 := u_e
      have z6 : dv_u V r 5 0 (V r 5 0 + 1) r 6 0 = V r 6 0 := u_j (by decide)
      have z7 : dv_u V r 5 0 (V r 5 0 + 1) r 7 0 = V r 7 0 := u_j (by decide)
      have z8 : dv_u V r 5 0 (V r 5 0 + 1) r 8 0 = -1 := by rw [u_j (by decide), h8]
      have zx : ∀ m z, dv_u V r 5 0 (V r 5 0 + 1) x m z = V x m z := fun m z => u_b c5
      have zxf : dv_u V r 5 0 (V r 5 0 + 1) x 0 = V x 0 := funext (fun z => zx 0 z)
      have y19 : dv_u W a 19 0 (W a 19 0 + 1) a 19 0 = V r 5 0 + 1 := by rw [u_e, a1]
      have y20 : dv_u W a 19 0 (W a 19 0 + 1) a 20 0 = V r 6 0 := by rw [u_j (by decide), a3]
      have y21 : dv_u W a 19 0 (W a 19 0 + 1) a 21 0 = -1 := by rw [u_j (by decide), w8]
      have C1 := fun (Vc V2 : dV) (y : Int) => c_8_add (V1 := Vc) (V2 := V2) (D := D) (fC := fC) (oc := oc) (cnt := cnt) (c := cd (V r 5 0)) (y := y) cx seen (by omega) ht
      have R1 := fun (W2 : dV) (y : Int) => m_s_add (W1 := W2) (e := e) (fR := f_X12_readTerm_B e fR) (lev := lev) (y := y) kx w8 (by rw [a1]; exact ha)
      have Re := m_t_end (W := W) (e := e) (fR := fR) (lev := lev) kx (fun _ => by rw [a1]; exact hm)
      generalize dv_u V r 5 0 (V r 5 0 + 1) = V1 at F1 z5 z6 z7 z8 zx zxf C1
      generalize dv_u W a 19 0 (W a 19 0 + 1) = W1 at G1 y19 y20 y21 R1
      obtain ⟨Vc, ec, fc, vcr, vc2, vcz, vcK, vci⟩ := rd_close (V := V1) (r := r) (d := d) (p0 := p0) (cb := cb) (T := T) (oc := oc) c5 (by rw [zx, zxf]; exact pd) iT (by rw [zx]; omega)
      rw [zx] at vc2 vcz
      have atc : rd_at pl N Vc W1 r x a := ⟨by rw [y19, vcr, z5], by rw [vcr, z5]; omega, by rw [y20, vcr, z6], by rw [vcr, z6]; omega, by rw [vc2]; split <;> omega, by rw [vc2, vcr, z5]; omega⟩
      have Fc := rd_fr_t F1 fc
      obtain ⟨V2, y, W2, y', e1, e2, o1, o2, o3, o4, o5⟩ := hP Vc W1 r x a (rd_cx_f cx Fc) (re_cx_f kx G1) (by rw [vcr, z7, h7]) (by rw [y21, vcr, z8]) (fun _ => atc)
      have C2 := C1 Vc V2 y ec e1
      have F2 := rd_fr_t Fc o1
      have G2 := re_fr_t G1 o2
      have cx2 := rd_cx_f cx F2
      have kx2 := re_cx_f kx G2
      have RT : f_X12_readTerm_B e fR W1 a lev = dv_lp (f_X12_readTerm_5b e fR) (W2, a, lev) := by
        unfold f_X12_readTerm_B
        rw [dv_bn2 e2]
      by_cases g8 : V2 r 8 0 = -1
      · obtain ⟨p8, at2, p5, px, pp, pz, B, pB, pK⟩ := o5 g8
        obtain ⟨b1, b2, b3, b4, b5, b6⟩ := id at2
        have T3 := (ts.2.2 (V2 r 5 0) b2.1 b2.2).2.1
        rw [vcr, z5] at p5 pp pB
        have ic := (k_sg_in (cd (V r 5 0))).1
        have c1 : ¬ k_sg (cd (V r 5 0)) = -1 := by omega
        have pd3 : rd_pd d (V2 x 0) p0 (V2 x 2 0) (k_sg (cd (V r 5 0))) (fun T' => d_op (cd (V r 5 0)) (cb T) T') B := Or.inr ⟨cd (V r 5 0), Vc x 2 0, cb T, ha, rfl, rfl, K_seg_c vcK (fun z _ z1 => pz z z1), vci, K_seg_m pK (by omega)⟩
        obtain ⟨V', u, Wt, ut, W', u', L1, L2, L3, L4, L5, L6, L7, L8⟩ := ih (n - 1) (by omega) V2 W2 r x a (k_sg (cd (V r 5 0))) (cnt + 1) p0 i0 (fun T' => d_op (cd (V r 5 0)) (cb T) T') B ⟨ts, cx2, kx2, g8, o4.trans g8, at2⟩ (by rw [o3, vcr, z7, h7]) (by omega) (by omega) (by rw [if_neg c1]; omega) (by split at vc2 <;> omega) pd3 (hin _ _ _ pB) (rd_g_add g hm ha pB)
        rw [if_neg c1] at L8
        refine ⟨V', u, W, 0, W', u', C2.trans L1, Re, (R1 Wt ut (RT.trans L2)).trans L3, rd_fr_t F2 L4, re_fr_t G2 L5, by rw [L6, o3, vcr, z7], L7, fun q => ?_⟩
        obtain ⟨M1, M2, M3, M4, M5, M6⟩ := L8 q
        refine ⟨M1, by omega, by split at vc2 <;> omega, by omega, fun z hz => ?_, M6⟩
        rw [M5 z hz, pz z (by split at vc2 <;> omega), vcz z (by omega), zx]
      · obtain ⟨V', L1, L2, L3, L4, L5⟩ := rd_sumF (D := D) (e := e) (fC := fC) (fR := fR) (lev := lev) (oc := k_sg (cd (V r 5 0))) (cnt := cnt + 1) cx2 kx2 g8 (by rw [o4]; exact g8)
        refine ⟨V', 0, W, 0, W2, 0, C2.trans L1, Re, (R1 W2 0 (RT.trans L2)).trans L3, rd_fr_t F2 L4, G2, by rw [L5, o3, vcr, z7], by rw [L5, o4], fun q => ?_⟩
        rw [L5] at q
        exact absurd q g8
    · -- the end of the SUM
      have e8 := c_8_end (D := D) (fC := fC) (oc := oc) (cnt := cnt) seen (tk_end T1 hm ha)
      obtain ⟨V', ec, fc, vcr, vc2, vcz, vcK, vci⟩ := rd_close (V := V) (r := r) (d := d) (p0 := p0) (cb := cb) (T := T) (oc := oc) c5 pd iT (by omega)
      rw [cx.2.2.1, ec] at e8
      refine ⟨V', 0, W, 0, W, 0, e8, m_t_end kx (fun _ => by rw [a1]; exact hm), m_s_end kx (fun _ => by rw [a1]; exact ha), fc, re_fr_r, vcr 7 0, by rw [vcr, h8, w8], fun _ => ?_⟩
      rw [vcr]
      exact ⟨⟨by rw [vcr]; exact a1, by rw [vcr]; exact a2, by rw [vcr]; exact a3, by rw [vcr]; exact a4, by rw [vc2]; split <;> omega, by rw [vc2, vcr]; exact hs⟩, by omega, by rw [vc2]; split <;> omega, by rw [vc2]; omega, fun z hz => vcz z (by omega), cb T, rd_g_end g hm ha, vcK⟩
theorem rd_sumB (ts : rd_ts tk pl cd vl N) (hP : rd_ok o tk pl cd vl N lev (2 * (d : Int) + 1) P fC fR) (hin : ∀ i j A, P i j A → d_in A) : rd_ok o tk pl cd vl N lev (2 * (d : Int) + 3) (D_sumF cd P) (f_X5_readSum_B D fC) (f_X12_readSum_B e (f_X12_readTerm_B e fR)) := by
  intro V W r x a cx kx h7 hf hat
  obtain ⟨V1, y, W1, y', e1, e2, o1, o2, o3, o4, o5⟩ := hP V W r x a cx kx h7 hf hat
  have cx1 := rd_cx_f cx o1
  have kx1 := re_cx_f kx o2
  have E1 : f_X5_readSum_B D fC V r = dv_lp (f_X5_readSum_8b D fC) (V1, r, -1, 0) := by
    unfold f_X5_readSum_B
    rw [dv_bn2 e1]
  have E2 : f_X12_readTerm_B e fR W a lev = dv_lp (f_X12_readTerm_5b e fR) (W1, a, lev) := by
    unfold f_X12_readTerm_B
    rw [dv_bn2 e2]
  have E3 : ∀ {W2 : dV} {y2 : Int}, dv_lp (f_X12_readTerm_5b e fR) (W1, a, lev) = (W2, y2) → f_X12_readSum_B e (f_X12_readTerm_B e fR) W a lev = dv_lp (f_X12_readSum_5b e (f_X12_readTerm_B e fR)) (W2, a, lev) := by
    intro W2 y2 q
    unfold f_X12_readSum_B
    rw [dv_bn2 (E2.trans q)]
  by_cases g8 : V1 r 8 0 = -1
  · obtain ⟨p8, at1, p5, px, pp, pz, A, pA, pK⟩ := o5 g8
    have a2 := (hat p8).2.1
    obtain ⟨V', u, Wt, ut, W', u', L1, L2, L3, L4, L5, L6, L7, L8⟩ := rd_sumL (D := D) (e := e) ts hP hin (N - V1 r 5 0).toNat V1 W1 r x a (-1) 0 (V x 2 0) (V r 5 0) (fun T' => T') A ⟨ts, cx1, kx1, g8, o4.trans g8, at1⟩ (by rw [o3, h7]) (by omega) (by omega) (by rw [if_pos rfl]; have := at1.2.2.2.2.2; omega) px (Or.inl ⟨rfl, rfl, K_seg_m pK (by omega)⟩) (hin _ _ _ pA) (rd_g_start pA)
    rw [if_pos rfl] at L8
    refine ⟨V', u, W', u', E1.trans L1, (E3 L2).trans L3, rd_fr_t o1 L4, re_fr_t o2 L5, by rw [L6, o3], L7, fun q => ?_⟩
    obtain ⟨M1, M2, M3, M4, M5, M6⟩ := L8 q
    exact ⟨p8, M1, by omega, by omega, by omega, fun z hz => by rw [M5 z hz, pz z hz], M6⟩
  · obtain ⟨V', L1, L2, L3, L4, L5⟩ := rd_sumF (D := D) (e := e) (fC := fC) (fR := fR) (lev := lev) (oc := -1) (cnt := 0) cx1 kx1 g8 (by rw [o4]; exact g8)
    refine ⟨V', 0, W1, 0, E1.trans L1, (E3 L2).trans L3, rd_fr_t o1 L4, o2, by rw [L5, o3], by rw [L5, o4], fun q => ?_⟩
    rw [L5] at q
    exact absurd q g8
/-- a SUM is read the same way -/
theorem rd_sum (ts : rd_ts tk pl cd vl N) (d : Nat) : ∀ D, d ≤ D → rd_ok o tk pl cd vl N (8 - (d : Int)) (2 * (d : Int) + 3) (D_sum o cd vl d) (f_X5_readSum D) (f_X12_readSum d) := by
  induction d with
  | zero =>
    intro D hD V W r x a cx kx h7 hf hat
    have hP := rd_part (d := 0) (D := D) (o := o) ts (fun d' q => by omega) hD
    rw [f_X5_readSum_d, f_X12_readSum_d]
    exact rd_sumB ts hP (fun _ _ _ => D_part_in) V W r x a cx kx h7 hf hat
  | succ d ih =>
    intro D hD V W r x a cx kx h7 hf hat
    have hP := rd_part (d := d + 1) (D := D) (o := o) ts (fun d' q D' hD' => by cases q; exact ih D' hD') hD
    rw [f_X5_readSum_d, f_X12_readSum_d]
    exact rd_sumB ts hP (fun _ _ _ => D_part_in) V W r x a cx kx h7 hf hat
end QRU
section QRN
variable {V V' V1 V2 V3 V4 W W' W1 : dV} {r x a i t c v o p N lev h h' u cnt : Int} {tk pl cd vl : Int → Int} {D d e : Nat} {P El El' : Int → Int → dn → Prop} {fC rC : dV → Int → dR} {fR rR : dV → Int → Int → dR}
/-- behind a fault a SUM is nothing -/
theorem c_sum_f (cx : rd_cx o tk pl V r x) (h : V r 8 0 ≠ -1) : ∃ V', f_X5_readSum D V r = (V', 0) ∧ rd_fr r x V V' ∧ V' r 8 0 = V r 8 0 ∧ V' r 7 0 = V r 7 0 := by
  obtain ⟨V1, e1, f1, g8, g7⟩ := c_part_f (D := D) h
  have cx1 := rd_cx_f cx f1
  obtain ⟨V2, e2, f2, k2⟩ := c_add_f (V := V1) (x := x) (c := -1) (r := r)
  refine ⟨V2, ?_, rd_fr_t f1 f2, by rw [k2 8 0 cx.2.2.2.2.1, g8], by rw [k2 7 0 cx.2.2.2.2.1, g7]⟩
  rw [f_X5_readSum_d]
  unfold f_X5_readSum_B
  rw [dv_bn2 e1, c_8_end (c_seen_f (by rw [g8]; exact h)) (by decide), cx1.2.2.1, e2]
theorem m_sum_f (k : re_cx o cd vl pl W a) (h : W a 21 0 ≠ -1) : f_X12_readSum d W a lev = (W, 0) := by
  rw [f_X12_readSum_d]
  unfold f_X12_readSum_B
  have e : f_X12_readTerm d W a lev = (W, 0) := by
    rw [f_X12_readTerm_d]
    unfold f_X12_readTerm_B
    rw [dv_bn2 (m_part_f h), m_t_end k (fun q => absurd q h)]
  rw [dv_bn2 e, m_s_end k (fun q => absurd q h)]
-- the class's test behind its "not"s
theorem c_156 : f_X5_readPlain_156 D rC V r u = Sum.inr ((if u = 0 then V else (f_X10_add V (V r 3 0) 3008).1), 0) := by
  unfold f_X5_readPlain_156
  by_cases e : u = 0
  · rw [if_pos e, if_pos e]
  · rw [if_neg e, if_neg e, bq, bq2]
theorem c_133n : f_X5_readPlain_133 D rC V r u (-1) = Sum.inr ((f_X5_fail V r).1, 0) := by
  unfold f_X5_readPlain_133
  rw [if_neg (fun q => q rfl), bq2]
theorem c_133p (hc : c ≠ -1) {y : Int} (hs : f_X5_readSum 8 V r = (V1, y)) : f_X5_readPlain_133 D rC V r u c = f_X5_readPlain_156 D rC (f_X10_add V1 (V1 r 3 0) c).1 r u := by
  unfold f_X5_readPlain_133
  rw [if_pos hc, dv_bn2 hs, bq, bq2]
theorem c_37s (cx : rd_cx o tk pl V r x) (hs : f_X5_seenToken V r = (t, ())) (h40 : t ≠ 40) {y : Int} (hr : f_X5_readSum 8 V r = (V1, y)) (f1 : rd_fr r x V V1) (hn : V1 r 8 0 = -1 → tk (V1 r 5 0) ≠ 60 ∧ tk (V1 r 5 0) ≠ 62 ∧ tk (V1 r 5 0) ≠ 61) : f_X5_readPlain_37 D rC V r u = Sum.inr ((f_X5_fail V1 r).1, 0) := by
  have cx1 := rd_cx_f cx f1
  unfold f_X5_readPlain_37
  rw [dv_bn2 hs, if_pos h40, dv_bn2 hr, dv_bn2 (c_take0 cx1 (fun q => (hn q).1)), if_pos rfl, dv_bn2 (c_take0 cx1 (fun q => (hn q).2.1)), if_pos rfl, dv_bn2 (c_take0 cx1 (fun q => (hn q).2.2)), if_pos rfl, c_133n]
theorem c_37c (cx : rd_cx o tk pl V r x) (hs : f_X5_seenToken V r = (t, ())) (h40 : t ≠ 40) {y : Int} (hr : f_X5_readSum 8 V r = (V1, y)) (f1 : rd_fr r x V V1) (h8 : V1 r 8 0 = -1) (hn : tk (V1 r 5 0) = 60 ∧ c = 160 ∨ tk (V1 r 5 0) = 62 ∧ c = 162 ∨ tk (V1 r 5 0) = 61 ∧ c = 161) : f_X5_readPlain_37 D rC V r u = f_X5_readPlain_133 D rC (dv_u V1 r 5 0 (V1 r 5 0 + 1)) r u (k_sg c) := by
  have cx1 := rd_cx_f cx f1
  unfold f_X5_readPlain_37
  rw [dv_bn2 hs, if_pos h40, dv_bn2 hr]
  rcases hn with ⟨e, rfl⟩ | ⟨e, rfl⟩ | ⟨e, rfl⟩
  · rw [dv_bn2 (c_take1 cx1 h8 e), if_neg (by decide)]; rfl
  · rw [dv_bn2 (c_take0 cx1 (fun _ => by omega)), if_pos rfl, dv_bn2 (c_take1 cx1 h8 e), if_neg (by decide)]; rfl
  · rw [dv_bn2 (c_take0 cx1 (fun _ => by omega)), if_pos rfl, dv_bn2 (c_take0 cx1 (fun _ => by omega)), if_pos rfl, dv_bn2 (c_take1 cx1 h8 e), if_neg (by decide)]; rfl
theorem c_37b (hs : f_X5_seenToken V r = (40, ())) (h7 : V r 7 0 < 8) {y y3 : Int} (hr : rC (dv_u (dv_u V r 7 0 (V r 7 0 + 1)) r 5 0 (V r 5 0 + 1)) r = (V2, y)) (ht : f_X5_take (dv_u V2 r 7 0 (V2 r 7 0 - 1)) r 41 = (V3, y3)) : f_X5_readPlain_37 D rC V r u = f_X5_readPlain_156 D rC (if y3 ≠ 0 then V3 else (f_X5_fail V3 r).1) r u := by
  unfold f_X5_readPlain_37
  rw [dv_bn2 hs, if_neg (by decide), c_open, if_pos h7, dv_bn2 rfl, if_neg (by decide), dv_bn2 hr, bq, bq, bq, dv_bn2 ht]
  by_cases e : y3 ≠ 0
  · rw [if_pos e, if_pos e]
  · rw [if_neg e, if_neg e, bq2]
theorem c_378 (cx : rd_cx o tk pl V r x) (h8 : V r 8 0 = -1) (h40 : tk (V r 5 0) = 40) (h7 : ¬ V r 7 0 < 8) : f_X5_readPlain_37 D rC V r u = f_X5_readPlain_156 D rC (f_X5_fail V r).1 r u := by
  have hs := c_seen cx h8
  rw [h40] at hs
  unfold f_X5_readPlain_37
  rw [dv_bn2 hs, if_neg (by decide), c_open, if_neg h7, dv_bn2 rfl, if_pos rfl, dv_bn2 (c_take0 cx (fun _ => by omega)), if_neg (fun q => q rfl), bq2]
/-- "not" at last, behind a fault or not -/
theorem c_add8 (c5 : x ≠ r) (h3 : V r 3 0 = x) : ∃ V', (if u = 0 then V else (f_X10_add V (V r 3 0) 3008).1) = V' ∧ rd_fr r x V V' ∧ ∀ j z, V' r j z = V r j z := by
  by_cases e : u = 0
  · exact ⟨V, by rw [if_pos e], rd_fr_r, fun _ _ => rfl⟩
  · obtain ⟨V', e1, f1, g1⟩ := c_add_f (V := V) (x := x) (c := 3008) (r := r)
    exact ⟨V', by rw [if_neg e, h3, e1], f1, fun j z => g1 j z c5⟩
-- the reference's test behind its "not"s
theorem m_2_f (k : re_cx o cd vl pl W a) (h : W a 21 0 ≠ -1) : dv_lp (f_X12_readPlain_2b d rR) (W, a, lev, 0) = (W, 0) := by
  refine dv_lp_e ?_
  rw [f_X12_readPlain_2e]
  unfold f_X12_readPlain_2c
  rw [if_pos rfl, dv_bn2 (m_fine0 h), if_neg (fun q => q rfl)]
theorem m_2_8 (k : re_cx o cd vl pl W a) (h : W a 21 0 = -1) (hc : cd (W a 19 0) = 140) (hp : pl (W a 19 0) ≠ -1) : dv_lp (f_X12_readPlain_2b d rR) (W, a, 8, 0) = (dv_u W a 21 0 (pl (W a 19 0)), 0) := by
  refine dv_lp_e ?_
  rw [f_X12_readPlain_2e]
  unfold f_X12_readPlain_2c f_X12_readPlain_53
  rw [if_pos rfl, dv_bn2 (m_fine1 h), if_pos (by decide), bq, bq, k.1, dv_bn2 q_sign, hc, if_neg (by decide), if_neg (by decide), dv_bn2 (m_faults k h), dv_bn2 (m_fine0 (by rw [u_e]; exact hp)), if_neg (fun q => q rfl)]
theorem m_2_b (k : re_cx o cd vl pl W a) (h : W a 21 0 = -1) (hc : cd (W a 19 0) = 140) (hl : lev ≠ 8) : dv_lp (f_X12_readPlain_2b d rR) (W, a, lev, 0) = ((f_X12_must (rR (dv_u W a 19 0 (W a 19 0 + 1)) a (lev + 1)).1 a 141).1, 0) := by
  refine dv_lp_e ?_
  rw [f_X12_readPlain_2e]
  unfold f_X12_readPlain_2c f_X12_readPlain_53
  rw [if_pos rfl, dv_bn2 (m_fine1 h), if_pos (by decide), bq, bq, k.1, dv_bn2 q_sign, hc, if_neg (by decide), if_pos hl, dv_bn2 (m_fine1 h), if_pos (by decide), bq, bq, bq, bq, bq2, dv_bn2 q_sign, bq2]
  rfl
theorem m_2_s (k : re_cx o cd vl pl W a) (h : W a 21 0 = -1) (hc : cd (W a 19 0) ≠ 140) {y : Int} (hr : f_X12_readSum d W a lev = (W1, y)) (g : re_fr a W W1) : dv_lp (f_X12_readPlain_2b d rR) (W, a, lev, 0) = (if W1 a 21 0 = -1 ∧ (cd (W1 a 19 0) = 160 ∨ cd (W1 a 19 0) = 162 ∨ cd (W1 a 19 0) = 161) then (f_X12_readSum d (dv_u W1 a 19 0 (W1 a 19 0 + 1)) a lev).1 else (f_X12_readSum d (f_X12_must W1 a 161).1 a lev).1, 0) := by
  have k1 := re_cx_f k g
  refine dv_lp_e ?_
  rw [f_X12_readPlain_2e]
  unfold f_X12_readPlain_2c
  rw [if_pos rfl, dv_bn2 (m_fine1 h), if_pos (by decide), bq, bq, k.1, dv_bn2 q_sign, if_pos (show cd (W a 19 0) ≠ 100 + 40 by omega), dv_bn2 hr, dv_bn2 q_sign]
  by_cases h1 : W1 a 21 0 = -1
  · by_cases e0 : cd (W1 a 19 0) = 160
    · rw [dv_bn2 (m_take1 k1 h1 (by omega)), if_pos (by decide), bq2, if_pos ⟨h1, Or.inl e0⟩]
    · rw [dv_bn2 (m_take0 k1 (fun _ => by omega)), if_neg (fun q => q rfl), dv_bn2 q_sign]
      by_cases e2 : cd (W1 a 19 0) = 162
      · rw [dv_bn2 (m_take1 k1 h1 (by omega)), if_pos (by decide), bq2, if_pos ⟨h1, Or.inr (Or.inl e2)⟩]
      · rw [dv_bn2 (m_take0 k1 (fun _ => by omega)), if_neg (fun q => q rfl), dv_bn2 q_sign, bq2, bq2]
        by_cases e1 : cd (W1 a 19 0) = 161
        · rw [if_pos ⟨h1, Or.inr (Or.inr e1)⟩, m_must1 k1 h1 (by omega)]
        · rw [if_neg (fun q => by omega)]
          rfl
  · rw [dv_bn2 (m_take0 k1 (fun q => absurd q h1)), if_neg (fun q => q rfl), dv_bn2 q_sign, dv_bn2 (m_take0 k1 (fun q => absurd q h1)), if_neg (fun q => q rfl), dv_bn2 q_sign, bq2, bq2, if_neg (fun q => h1 q.1)]
    rfl
end QRN
section QRM
variable {V V' V1 V2 V3 V4 W W' W1 : dV} {r x a i t c v o p N lev h h' u cnt s : Int} {tk pl cd vl : Int → Int} {D d e : Nat} {P El El' : Int → Int → dn → Prop} {fC rC : dV → Int → dR} {fR rR : dV → Int → Int → dR}
/-- as rd_out, with s codes more than the bytes behind the first token -/
def rd_outs (pl : Int → Int) (N h s : Int) (El : Int → Int → dn → Prop) (V W : dV) (r x a : Int) (V' W' : dV) : Prop := rd_fr r x V V' ∧ re_fr a W W' ∧ V' r 7 0 = V r 7 0 ∧ W' a 21 0 = V' r 8 0 ∧ (V' r 8 0 = -1 → V r 8 0 = -1 ∧ rd_at pl N V' W' r x a ∧ V r 5 0 < V' r 5 0 ∧ V x 2 0 < V' x 2 0 ∧ V' x 2 0 - V x 2 0 ≤ pl (V' r 5 0) - pl (V r 5 0) + s ∧ (∀ z, z < V x 2 0 → V' x 0 z = V x 0 z) ∧ ∃ A, El (V r 5 0) (V' r 5 0) A ∧ K_seg (V' x 0) (V x 2 0) (V' x 2 0) A h)
theorem rd_bads (f : rd_fr r x V V') (g : re_fr a W W') (h7 : V' r 7 0 = V r 7 0) (h8 : V' r 8 0 = p) (h21 : W' a 21 0 = p) (hp : p ≠ -1) : rd_outs pl N h s El V W r x a V' W' := ⟨f, g, h7, by rw [h8, h21], fun q => absurd (h8.symm.trans q) hp⟩
/-- a test that has been read, and its "not" -/
theorem rd_fin (c5 : x ≠ r) (hu : u = 0 ∨ u = 1) (h8 : V r 8 0 = -1) (F : rd_fr r x V V4) (G : re_fr a W W') (h7 : V4 r 7 0 = V r 7 0) (h48 : V4 r 8 0 = -1) (w8 : W' a 21 0 = -1) (at4 : rd_at pl N V4 W' r x a) (p4 : pl (V4 r 5 0) ≤ 400) (i5 : V r 5 0 < V4 r 5 0) (i2 : V x 2 0 < V4 x 2 0) (sz : V4 x 2 0 - V x 2 0 ≤ pl (V4 r 5 0) - pl (V r 5 0)) (szu : V x 2 0 + u ≤ pl (V r 5 0)) (hz : ∀ z, z < V x 2 0 → V4 x 0 z = V x 0 z) {B : dn} (hE : El (V r 5 0) (V4 r 5 0) B) (h01 : d_01 B) (hK : K_seg (V4 x 0) (V x 2 0) (V4 x 2 0) B h) : ∃ V', (if u = 0 then V4 else (f_X10_add V4 x 3008).1) = V' ∧ rd_outs pl N h u (fun i j A => ∃ B, El i j B ∧ A = if u = 0 then B else d_not B) V W r x a V' W' := by
  by_cases e : u = 0
  · refine ⟨V4, by rw [if_pos e], F, G, h7, w8.trans h48.symm, fun _ => ⟨h8, at4, i5, i2, by omega, hz, B, ⟨B, hE, by rw [if_pos e]⟩, hK⟩⟩
  · have u1 : u = 1 := by omega
    have a5 := at4.2.2.2.2.1
    refine ⟨_, by rw [if_neg e, c_add (by decide) (show V4 x 2 0 < 400 by omega)], rd_fr_t F (rd_fr_t (rd_fr_x (by decide)) (rd_fr_x (by decide))), G, ?_⟩
    have vr : ∀ m z, dv_u (dv_u V4 x 0 (V4 x 2 0) 3008) x 2 0 (V4 x 2 0 + 1) r m z = V4 r m z := fun m z => by rw [u_b (Ne.symm c5), u_b (Ne.symm c5)]
    have v2 : dv_u (dv_u V4 x 0 (V4 x 2 0) 3008) x 2 0 (V4 x 2 0 + 1) x 2 0 = V4 x 2 0 + 1 := u_e
    have vc : dv_u (dv_u V4 x 0 (V4 x 2 0) 3008) x 2 0 (V4 x 2 0 + 1) x 0 (V4 x 2 0) = 3008 := by rw [u_j (by decide), u_e]
    have vz : ∀ z, z < V4 x 2 0 → dv_u (dv_u V4 x 0 (V4 x 2 0) 3008) x 2 0 (V4 x 2 0 + 1) x 0 z = V4 x 0 z := fun z hz => by rw [u_j (by decide), u_i (by omega)]
    show dv_u (dv_u V4 x 0 (V4 x 2 0) 3008) x 2 0 (V4 x 2 0 + 1) r 7 0 = V r 7 0 ∧ W' a 21 0 = dv_u (dv_u V4 x 0 (V4 x 2 0) 3008) x 2 0 (V4 x 2 0 + 1) r 8 0 ∧ (dv_u (dv_u V4 x 0 (V4 x 2 0) 3008) x 2 0 (V4 x 2 0 + 1) r 8 0 = -1 → _)
    generalize dv_u (dv_u V4 x 0 (V4 x 2 0) 3008) x 2 0 (V4 x 2 0 + 1) = V5 at vr v2 vc vz
    obtain ⟨b1, b2, b3, b4, b5, b6⟩ := at4
    refine ⟨by rw [vr, h7], by rw [vr, w8, h48], fun _ => ⟨h8, ⟨by rw [vr]; exact b1, by rw [vr]; exact b2, by rw [vr]; exact b3, by rw [vr]; exact b4, by rw [v2]; omega, by rw [v2, vr]; omega⟩, by rw [vr]; exact i5, by rw [v2]; omega, by rw [v2, vr]; omega, fun z z1 => by rw [vz z (by omega), hz z z1], d_not B, ⟨B, by rw [vr]; exact hE, by rw [if_neg e]⟩, ?_⟩⟩
    rw [v2]
    exact K_not (K_seg_c hK (fun z _ z1 => vz z z1)) vc h01
theorem tk_cmp (T : rd_tk t c v) : (c = 160 ∨ c = 162 ∨ c = 161) ↔ (t = 60 ∧ c = 160 ∨ t = 62 ∧ c = 162 ∨ t = 61 ∧ c = 161) := by unfold rd_tk rd_wp at T; omega
theorem rd_mainB (ts : rd_ts tk pl cd vl N) (hd : d + 1 ≤ 8) (hT : rd_ok o tk pl cd vl N (8 - (d : Int)) 20 (D_test o cd vl d) rC rR) (hlev : lev = 8 - ((d + 1 : Nat) : Int)) (hu : u = 0 ∨ u = 1) (hi : rd_in o tk pl cd vl N V W r x a) (h7 : V r 7 0 = lev) (hsz : V x 2 0 + u ≤ pl (V r 5 0)) (h40 : tk (V r 5 0) = 40) : ∃ (V' W' : dV) (y' : Int), f_X5_readPlain_37 D rC V r u = Sum.inr (V', 0) ∧ dv_lp (f_X12_readPlain_2b e rR) (W, a, lev, 0) = (W', y') ∧ rd_outs pl N 20 u (fun i j A => ∃ B, D_pos o cd vl (d + 1) i j B ∧ A = if u = 0 then B else d_not B) V W r x a V' W' := by
  obtain ⟨T1, T2⟩ := rd_tT hi
  obtain ⟨i1, p1, S1, q1⟩ := rd_iN hi (by omega)
  obtain ⟨-, cx, kx, h8, w8, at0⟩ := id hi
  have a1 := at0.1
  have a2 := at0.2.1
  have a4 := at0.2.2.2.1
  have c5 := cx.2.2.2.2.1
  have c140 : cd (W a 19 0) = 140 := by rw [a1]; exact (rd_sg T1 (b := 40) (by decide) (by decide)).mp h40
  have w1 := @rd_w1 (tk (V r 5 0))
  have hs := c_seen cx h8
  rw [h40] at hs
  have hl : lev + 1 = 8 - (d : Int) := by omega
  have F1 : rd_fr r x V (dv_u (dv_u V r 7 0 (V r 7 0 + 1)) r 5 0 (V r 5 0 + 1)) := rd_fr_t (rd_fr_u (by decide)) (rd_fr_u (by decide))
  have G1 : re_fr a W (dv_u W a 19 0 (W a 19 0 + 1)) := re_fr_u (by decide)
  have z5 : dv_u (dv_u V r 7 0 (V r 7 0 + 1)) r 5 0 (V r 5 0 + 1) r 5 0 = V r 5 0 + 1 := u_e
  have z6 : dv_u (dv_u V r 7 0 (V r 7 0 + 1)) r 5 0 (V r 5 0 + 1) r 6 0 = V r 6 0 := by rw [u_j (by decide), u_j (by decide)]
  have z7 : dv_u (dv_u V r 7 0 (V r 7 0 + 1)) r 5 0 (V r 5 0 + 1) r 7 0 = V r 7 0 + 1 := by rw [u_j (by decide), u_e]
  have z8 : dv_u (dv_u V r 7 0 (V r 7 0 + 1)) r 5 0 (V r 5 0 + 1) r 8 0 = -1 := by rw [u_j (by decide), u_j (by decide), h8]
  have zx : ∀ m z, dv_u (dv_u V r 7 0 (V r 7 0 + 1)) r 5 0 (V r 5 0 + 1) x m z = V x m z := fun m z => by rw [u_b c5, u_b c5]
  have y19 : dv_u W a 19 0 (W a 19 0 + 1) a 19 0 = V r 5 0 + 1 := by rw [u_e, a1]
  have y20 : dv_u W a 19 0 (W a 19 0 + 1) a 20 0 = V r 6 0 := by rw [u_j (by decide), at0.2.2.1]
  have y21 : dv_u W a 19 0 (W a 19 0 + 1) a 21 0 = -1 := by rw [u_j (by decide), w8]
  have mb := m_2_b (d := e) (rR := rR) (lev := lev) kx w8 c140 (by omega)
  have C9 := fun (V2 V3 : dV) (y y3 : Int) => c_37b (V2 := V2) (V3 := V3) (y := y) (y3 := y3) (D := D) (rC := rC) (u := u) hs (by omega)
  generalize dv_u (dv_u V r 7 0 (V r 7 0 + 1)) r 5 0 (V r 5 0 + 1) = V1 at F1 z5 z6 z7 z8 zx C9
  generalize dv_u W a 19 0 (W a 19 0 + 1) = W1 at G1 y19 y20 y21 mb
  have at1 : rd_at pl N V1 W1 r x a := ⟨by rw [y19, z5], by rw [z5]; omega, by rw [y20, z6], by rw [z6]; omega, by rw [zx]; exact at0.2.2.2.2.1, by rw [zx, z5]; have := at0.2.2.2.2.2; omega⟩
  obtain ⟨V2, y, W2, y', e1, e2, o1, o2, o3, o4, o5⟩ := hT V1 W1 r x a (rd_cx_f cx F1) (re_cx_f kx G1) (by rw [z7]; omega) (by rw [y21, z8]) (fun _ => at1)
  rw [hl, e2] at mb
  dsimp only at mb
  have F2 := rd_fr_t F1 o1
  have G2 := re_fr_t G1 o2
  have F3 : rd_fr r x V (dv_u V2 r 7 0 (V2 r 7 0 - 1)) := rd_fr_t F2 (rd_fr_u (by decide))
  have x7 : dv_u V2 r 7 0 (V2 r 7 0 - 1) r 7 0 = V r 7 0 := by rw [u_e, o3, z7]; omega
  have x8 : dv_u V2 r 7 0 (V2 r 7 0 - 1) r 8 0 = V2 r 8 0 := by rw [u_j (by decide)]
  have x5 : dv_u V2 r 7 0 (V2 r 7 0 - 1) r 5 0 = V2 r 5 0 := by rw [u_j (by decide)]
  have x6 : dv_u V2 r 7 0 (V2 r 7 0 - 1) r 6 0 = V2 r 6 0 := by rw [u_j (by decide)]
  have xx : ∀ m z, dv_u V2 r 7 0 (V2 r 7 0 - 1) x m z = V2 x m z := fun m z => by rw [u_b c5]
  have C92 := fun (V3 : dV) (y3 : Int) => C9 V2 V3 y y3 e1
  generalize dv_u V2 r 7 0 (V2 r 7 0 - 1) = V3 at F3 x7 x8 x5 x6 xx C92
  have cx3 := rd_cx_f cx F3
  have kx2 := re_cx_f kx G2
  by_cases g8 : V2 r 8 0 = -1
  · obtain ⟨p8, at2, p5, px, pp, pz, A, pA, pK⟩ := o5 g8
    have w28 : W2 a 21 0 = -1 := o4.trans g8
    have hi2 : rd_in o tk pl cd vl N V2 W2 r x a := ⟨ts, rd_cx_f cx F2, kx2, g8, w28, at2⟩
    obtain ⟨U1, U2⟩ := rd_tT hi2
    by_cases h41 : tk (V2 r 5 0) = 41
    · obtain ⟨j1, r1, R1, s1⟩ := rd_iN hi2 (by omega)
      have v1 := @rd_w1 (tk (V2 r 5 0))
      have e3 := C92 _ _ (c_take1 cx3 (x8.trans g8) (by rw [x5]; exact h41))
      rw [if_pos (by decide), c_156, x5] at e3
      have c141 : cd (V2 r 5 0) = 141 := (rd_sg U1 (b := 41) (by decide) (by decide)).mp h41
      rw [m_must1 kx2 w28 (by rw [at2.1]; exact c141)] at mb
      dsimp only at mb
      have b3 : dv_u V3 r 5 0 (V2 r 5 0 + 1) r 3 0 = x := by rw [u_j (by decide)]; exact cx3.2.2.1
      rw [b3] at e3
      obtain ⟨V', e4, ho⟩ := rd_fin (N := N) (pl := pl) (V := V) (W := W) (El := D_pos o cd vl (d + 1)) (V4 := dv_u V3 r 5 0 (V2 r 5 0 + 1)) (W' := dv_u W2 a 19 0 (W2 a 19 0 + 1)) (u := u) (h := 20) (B := A) c5 hu h8 (rd_fr_t F3 (rd_fr_u (by decide))) (re_fr_t G2 (re_fr_u (by decide))) (by rw [u_j (by decide), x7]) (by rw [u_j (by decide), x8, g8]) (by rw [u_j (by decide), w28]) ⟨by rw [u_e, u_e, at2.1], by rw [u_e]; have := at2.2.1; omega, by rw [u_j (by decide), u_j (by decide), x6, at2.2.2.1], by rw [u_j (by decide), x6]; exact at2.2.2.2.1, by rw [u_b c5, xx]; exact at2.2.2.2.2.1, by rw [u_b c5, xx, u_e]; have := at2.2.2.2.2.2; omega⟩ (by rw [u_e]; omega) (by rw [u_e]; rw [z5] at p5; omega) (by rw [u_b c5, xx]; rw [zx] at px; omega) (by rw [u_b c5, xx, u_e]; rw [zx, z5] at pp; omega) hsz (fun z hz => by rw [u_b c5, xx, pz z (by rw [zx]; exact hz), zx]) (by
          rw [u_e]
          refine Or.inr ⟨by rw [← a1]; exact c140, ?_, ?_⟩
          · rw [show V2 r 5 0 + 1 - 1 = V2 r 5 0 by omega, ← z5]; exact pA
          · rw [show V2 r 5 0 + 1 - 1 = V2 r 5 0 by omega]; exact c141) (D_testF_01 (fun _ _ _ => D_pos_01) pA) (by
          rw [u_b c5, xx]
          rw [zx] at pK
          exact K_seg_c pK (fun z _ _ => by rw [u_b c5, xx]))
      rw [e4] at e3
      exact ⟨V', _, _, e3, mb, ho⟩
    · have e3 := C92 _ _ (c_take0 cx3 (fun _ => by rw [x5]; exact h41))
      rw [if_neg (fun q => q rfl), c_fail cx3 (x8.trans g8), x5, c_156] at e3
      have c141 : cd (W2 a 19 0) ≠ 141 := by rw [at2.1]; exact fun q => h41 ((rd_sg U1 (b := 41) (by decide) (by decide)).mpr q)
      rw [m_must0 kx2 w28 c141, at2.1] at mb
      obtain ⟨V', e4, f4, g4⟩ := c_add8 (V := dv_u V3 r 8 0 (pl (V2 r 5 0))) (u := u) c5 (by rw [u_j (by decide)]; exact cx3.2.2.1)
      dsimp only at e3
      rw [e4] at e3
      exact ⟨V', _, _, e3, mb, rd_bads (rd_fr_t F3 (rd_fr_t (rd_fr_u (by decide)) f4)) (re_fr_t G2 (re_fr_u (by decide))) (by rw [g4, u_j (by decide), x7]) (by rw [g4, u_e]) (by show dv_u _ _ _ _ _ _ _ _ = _; rw [u_e]) (by omega)⟩
  · have e3 := C92 _ _ (c_take0 cx3 (fun q => absurd (x8.symm.trans q) g8))
    rw [if_neg (fun q => q rfl), c_fail_f (by rw [x8]; exact g8), c_156] at e3
    rw [m_must_f kx2 (by rw [o4]; exact g8)] at mb
    obtain ⟨V', e4, f4, g4⟩ := c_add8 (V := V3) (u := u) c5 cx3.2.2.1
    dsimp only at e3
    rw [e4] at e3
    exact ⟨V', _, _, e3, mb, rd_bads (rd_fr_t F3 f4) G2 (by rw [g4, x7]) (by rw [g4, x8]) o4 g8⟩
end QRM
section QRO
variable {V V' V1 V2 V3 V4 W W' W1 : dV} {r x a i t c v o p N lev h h' u cnt s : Int} {tk pl cd vl : Int → Int} {D d e : Nat} {P El El' : Int → Int → dn → Prop} {fC rC : dV → Int → dR} {fR rR : dV → Int → Int → dR}
/-- a comparison -/
theorem rd_mainC (ts : rd_ts tk pl cd vl N) (hd : d ≤ 8) (hlev : lev = 8 - (d : Int)) (hu : u = 0 ∨ u = 1) (hi : rd_in o tk pl cd vl N V W r x a) (h7 : V r 7 0 = lev) (hsz : V x 2 0 + u ≤ pl (V r 5 0)) (h40 : tk (V r 5 0) ≠ 40) : ∃ (V' W' : dV) (y' : Int), f_X5_readPlain_37 D rC V r u = Sum.inr (V', 0) ∧ dv_lp (f_X12_readPlain_2b d rR) (W, a, lev, 0) = (W', y') ∧ rd_outs pl N 20 u (fun i j A => ∃ B, D_comp o cd vl d i j B ∧ A = if u = 0 then B else d_not B) V W r x a V' W' := by
  obtain ⟨T1, T2⟩ := rd_tT hi
  obtain ⟨-, cx, kx, h8, w8, at0⟩ := id hi
  have a1 := at0.1
  have c5 := cx.2.2.2.2.1
  have hs := c_seen cx h8
  have n140 : cd (W a 19 0) ≠ 140 := by rw [a1]; exact fun q => h40 ((rd_sg T1 (b := 40) (by decide) (by decide)).mpr q)
  obtain ⟨V1, y, W1, y', e1, e2, o1, o2, o3, o4, o5⟩ := rd_sum (o := o) ts d 8 hd V W r x a cx kx (h7.trans hlev) (w8.trans h8.symm) (fun _ => at0)
  rw [← hlev] at e2
  have cx1 := rd_cx_f cx o1
  have kx1 := re_cx_f kx o2
  have m2 := m_2_s (rR := rR) kx w8 n140 e2 o2
  by_cases g8 : V1 r 8 0 = -1
  · obtain ⟨p8, at1, p5, px, pp, pz, A, pA, pK⟩ := o5 g8
    have w18 : W1 a 21 0 = -1 := o4.trans g8
    have hi1 : rd_in o tk pl cd vl N V1 W1 r x a := ⟨ts, cx1, kx1, g8, w18, at1⟩
    obtain ⟨U1, U2⟩ := rd_tT hi1
    by_cases hc : cd (V1 r 5 0) = 160 ∨ cd (V1 r 5 0) = 162 ∨ cd (V1 r 5 0) = 161
    · have ht := (tk_cmp U1).mp hc
      obtain ⟨j1, r1, R1, s1⟩ := rd_iN hi1 (by omega)
      have v1 := @rd_w1 (tk (V1 r 5 0))
      rw [if_pos ⟨w18, by rw [at1.1]; exact hc⟩] at m2
      have F1 : rd_fr r x V (dv_u V1 r 5 0 (V1 r 5 0 + 1)) := rd_fr_t o1 (rd_fr_u (by decide))
      have G1 : re_fr a W (dv_u W1 a 19 0 (W1 a 19 0 + 1)) := re_fr_t o2 (re_fr_u (by decide))
      have z5 : dv_u V1 r 5 0 (V1 r 5 0 + 1) r 5 0 = V1 r 5 0 + 1 := u_e
      have z6 : dv_u V1 r 5 0 (V1 r 5 0 + 1) r 6 0 = V1 r 6 0 := u_j (by decide)
      have z7 : dv_u V1 r 5 0 (V1 r 5 0 + 1) r 7 0 = V1 r 7 0 := u_j (by decide)
      have z8 : dv_u V1 r 5 0 (V1 r 5 0 + 1) r 8 0 = -1 := by rw [u_j (by decide), g8]
      have zx : ∀ m z, dv_u V1 r 5 0 (V1 r 5 0 + 1) x m z = V1 x m z := fun m z => u_b c5
      have y19 : dv_u W1 a 19 0 (W1 a 19 0 + 1) a 19 0 = V1 r 5 0 + 1 := by rw [u_e, at1.1]
      have y20 : dv_u W1 a 19 0 (W1 a 19 0 + 1) a 20 0 = V1 r 6 0 := by rw [u_j (by decide), at1.2.2.1]
      have y21 : dv_u W1 a 19 0 (W1 a 19 0 + 1) a 21 0 = -1 := by rw [u_j (by decide), w18]
      have C1 := c_37c (D := D) (rC := rC) (u := u) (c := cd (V1 r 5 0)) cx hs h40 e1 o1 g8 ht
      generalize dv_u V1 r 5 0 (V1 r 5 0 + 1) = V2 at F1 z5 z6 z7 z8 zx C1
      generalize dv_u W1 a 19 0 (W1 a 19 0 + 1) = W2 at G1 y19 y20 y21 m2
      have at2 : rd_at pl N V2 W2 r x a := ⟨by rw [y19, z5], by rw [z5]; have := at1.2.1; omega, by rw [y20, z6], by rw [z6]; exact at1.2.2.2.1, by rw [zx]; exact at1.2.2.2.2.1, by rw [zx, z5]; have := at1.2.2.2.2.2; omega⟩
      obtain ⟨V3, b, W3, b', f1, f2, q1, q2, q3, q4, q5⟩ := rd_sum (o := o) ts d 8 hd V2 W2 r x a (rd_cx_f cx F1) (re_cx_f kx G1) (by rw [z7, o3, h7, hlev]) (by rw [y21, z8]) (fun _ => at2)
      rw [← hlev] at f2
      rw [f2] at m2
      dsimp only at m2
      have ic := (k_sg_in (cd (V1 r 5 0))).1
      rw [c_133p (by omega) f1] at C1
      have F3 := rd_fr_t F1 q1
      have G3 := re_fr_t G1 q2
      have cx3 := rd_cx_f cx F3
      rw [cx3.2.2.1, c_156] at C1
      by_cases g38 : V3 r 8 0 = -1
      · obtain ⟨p38, at3, p35, px3, pp3, pz3, A3, pA3, pK3⟩ := q5 g38
        have w38 : W3 a 21 0 = -1 := q4.trans g38
        have U3 := (ts.2.2 (V3 r 5 0) at3.2.1.1 at3.2.1.2).2.1
        rw [z5] at p35 pp3 pA3
        rw [zx] at px3 pp3 pz3 pK3
        have b6 := at3.2.2.2.2.2
        have b5 := at3.2.2.2.2.1
        rw [c_add (by omega) (show V3 x 2 0 < 400 by have := at1.2.2.2.2.2; omega)] at C1
        dsimp only at C1
        have F4 : rd_fr r x V (dv_u (dv_u V3 x 0 (V3 x 2 0) (k_sg (cd (V1 r 5 0)))) x 2 0 (V3 x 2 0 + 1)) := rd_fr_t F3 (rd_fr_t (rd_fr_x (by decide)) (rd_fr_x (by decide)))
        have vr : ∀ m z, dv_u (dv_u V3 x 0 (V3 x 2 0) (k_sg (cd (V1 r 5 0)))) x 2 0 (V3 x 2 0 + 1) r m z = V3 r m z := fun m z => by rw [u_b (Ne.symm c5), u_b (Ne.symm c5)]
        have v2 : dv_u (dv_u V3 x 0 (V3 x 2 0) (k_sg (cd (V1 r 5 0)))) x 2 0 (V3 x 2 0 + 1) x 2 0 = V3 x 2 0 + 1 := u_e
        have vc : dv_u (dv_u V3 x 0 (V3 x 2 0) (k_sg (cd (V1 r 5 0)))) x 2 0 (V3 x 2 0 + 1) x 0 (V3 x 2 0) = k_sg (cd (V1 r 5 0)) := by rw [u_j (by decide), u_e]
        have vz : ∀ z, z < V3 x 2 0 → dv_u (dv_u V3 x 0 (V3 x 2 0) (k_sg (cd (V1 r 5 0)))) x 2 0 (V3 x 2 0 + 1) x 0 z = V3 x 0 z := fun z hz => by rw [u_j (by decide), u_i (by omega)]
        generalize dv_u (dv_u V3 x 0 (V3 x 2 0) (k_sg (cd (V1 r 5 0)))) x 2 0 (V3 x 2 0 + 1) = V4 at C1 F4 vr v2 vc vz
        rw [(rd_cx_f cx F4).2.2.1] at C1
        have hK : K_seg (V4 x 0) (V x 2 0) (V4 x 2 0) (d_cmp (cd (V1 r 5 0)) A A3) 20 := by
          rw [v2]
          exact K_cmp (K_seg_c pK (fun z _ z1 => by rw [vz z (by omega), pz3 z z1, zx])) (K_seg_c pK3 (fun z _ z1 => vz z z1)) vc hc (D_sum_in pA) (D_sum_in pA3) (by omega) (by omega)
        obtain ⟨V', e4, ho⟩ := rd_fin (N := N) (pl := pl) (V := V) (W := W) (El := D_comp o cd vl d) (V4 := V4) (W' := W3) (u := u) (h := 20) (B := d_cmp (cd (V1 r 5 0)) A A3) c5 hu h8 F4 G3 (by rw [vr, q3, z7, o3]) (by rw [vr, g38]) w38 ⟨by rw [vr]; exact at3.1, by rw [vr]; exact at3.2.1, by rw [vr]; exact at3.2.2.1, by rw [vr]; exact at3.2.2.2.1, by rw [v2]; omega, by rw [v2, vr]; have := at1.2.2.2.2.2; omega⟩ (by rw [vr]; omega) (by rw [vr]; omega) (by rw [v2]; omega) (by rw [v2, vr]; omega) hsz (fun z hz => by rw [vz z (by omega), pz3 z (by omega), zx, pz z hz]) ⟨V1 r 5 0, A, A3, pA, hc, by rw [vr]; exact pA3, rfl⟩ d_cmp_01 hK
        rw [e4] at C1
        exact ⟨V', _, _, C1, m2, ho⟩
      · obtain ⟨V4, e3, f3, k3⟩ := c_add_f (V := V3) (x := x) (c := k_sg (cd (V1 r 5 0))) (r := r)
        have k3 : ∀ j z, V4 r j z = V3 r j z := fun j z => k3 j z c5
        rw [e3] at C1
        dsimp only at C1
        obtain ⟨V', e4, f4, g4⟩ := c_add8 (V := V4) (u := u) c5 (rd_cx_f cx3 f3).2.2.1
        rw [(rd_cx_f cx3 f3).2.2.1] at e4
        rw [(rd_cx_f cx3 f3).2.2.1, e4] at C1
        exact ⟨V', _, _, C1, m2, rd_bads (rd_fr_t F3 (rd_fr_t f3 f4)) G3 (by rw [g4, k3, q3, z7, o3]) (by rw [g4, k3]) q4 g38⟩
    · have C1 := c_37s (D := D) (rC := rC) (u := u) cx hs h40 e1 o1 (fun _ => by
        have n1 := mt (tk_cmp U1).mpr hc
        clear ts hi hi1 o5 at1
        unfold rd_tk rd_wp at U1
        omega)
      rw [c_fail cx1 g8] at C1
      rw [if_neg (fun q => hc (by rw [← at1.1]; exact q.2)), m_must0 kx1 w18 (by rw [at1.1]; omega), at1.1] at m2
      dsimp only at m2
      have hp : pl (V1 r 5 0) ≠ -1 := by omega
      rw [m_sum_f (re_cx_f kx1 (re_fr_u (by decide))) (by rw [u_e]; exact hp)] at m2
      exact ⟨_, _, _, C1, m2, rd_bads (rd_fr_t o1 (rd_fr_u (by decide))) (re_fr_t o2 (re_fr_u (by decide))) (by show dv_u _ _ _ _ _ _ _ _ = _; rw [u_j (by decide), o3]) (by show dv_u _ _ _ _ _ _ _ _ = _; rw [u_e]) (by show dv_u _ _ _ _ _ _ _ _ = _; rw [u_e]) hp⟩
  · have C1 := c_37s (D := D) (rC := rC) (u := u) cx hs h40 e1 o1 (fun q => absurd q g8)
    rw [c_fail_f g8] at C1
    have w1 : W1 a 21 0 ≠ -1 := by rw [o4]; exact g8
    rw [if_neg (fun q => w1 q.1), m_must_f kx1 w1] at m2
    dsimp only at m2
    rw [m_sum_f kx1 w1] at m2
    exact ⟨_, _, _, C1, m2, rd_bads o1 o2 o3 rfl o4 g8⟩
end QRO
section QRX
variable {V V' V1 V2 V3 V4 W W' W1 : dV} {r x a i t c v o p N lev h h' u cnt s : Int} {tk pl cd vl : Int → Int} {D d e : Nat} {P El El' : Int → Int → dn → Prop} {fC rC : dV → Int → dR} {fR rR : dV → Int → Int → dR}
theorem rd_outs_m (ho : rd_outs pl N h s El V W r x a V' W') (hE : ∀ i j A, El i j A → El' i j A) : rd_outs pl N h s El' V W r x a V' W' := by
  obtain ⟨h1, h2, h3, h4, h5⟩ := ho
  refine ⟨h1, h2, h3, h4, fun q => ?_⟩
  obtain ⟨g1, g2, g3, g4, g5, g6, A, g7, g8⟩ := h5 q
  exact ⟨g1, g2, g3, g4, g5, g6, A, hE _ _ _ g7, g8⟩
/-- behind the "not"s -/
theorem rd_main (ts : rd_ts tk pl cd vl N) (hd : d ≤ 8) (hT : ∀ d', d = d' + 1 → rd_ok o tk pl cd vl N (8 - (d' : Int)) 20 (D_test o cd vl d') rC rR) (hlev : lev = 8 - (d : Int)) (hu : u = 0 ∨ u = 1) (hi : rd_in o tk pl cd vl N V W r x a) (h7 : V r 7 0 = lev) (hsz : V x 2 0 + u ≤ pl (V r 5 0)) : ∃ (V' W' : dV) (y' : Int), f_X5_readPlain_37 D rC V r u = Sum.inr (V', 0) ∧ dv_lp (f_X12_readPlain_2b d rR) (W, a, lev, 0) = (W', y') ∧ rd_outs pl N 20 u (fun i j A => ∃ B, D_pos o cd vl d i j B ∧ A = if u = 0 then B else d_not B) V W r x a V' W' := by
  by_cases h40 : tk (V r 5 0) = 40
  · cases d with
    | zero =>
      obtain ⟨T1, T2⟩ := rd_tT hi
      obtain ⟨-, cx, kx, h8, w8, at0⟩ := id hi
      have a1 := at0.1
      have c5 := cx.2.2.2.2.1
      have l8 : lev = 8 := by omega
      have c140 : cd (W a 19 0) = 140 := by rw [a1]; exact (rd_sg T1 (b := 40) (by decide) (by decide)).mp h40
      have e1 := c_378 (D := D) (rC := rC) (u := u) cx h8 h40 (by omega)
      rw [c_156, c_fail cx h8] at e1
      have e2 := m_2_8 (d := 0) (rR := rR) kx w8 c140 (by rw [a1]; omega)
      rw [← l8] at e2
      obtain ⟨V', e4, f4, g4⟩ := c_add8 (V := dv_u V r 8 0 (pl (V r 5 0))) (u := u) c5 (by rw [u_j (by decide)]; exact cx.2.2.1)
      dsimp only at e1
      rw [e4] at e1
      exact ⟨V', _, _, e1, e2, rd_bads (rd_fr_t (rd_fr_u (by decide)) f4) (re_fr_u (by decide)) (by rw [g4, u_j (by decide)]) (by rw [g4, u_e]) (by rw [u_e, a1]) (by omega)⟩
    | succ d => exact rd_mainB ts hd (hT d rfl) hlev hu hi h7 hsz h40
  · obtain ⟨V', W', y', e1, e2, ho⟩ := rd_mainC (D := D) (rC := rC) (rR := rR) ts hd hlev hu hi h7 hsz h40
    refine ⟨V', W', y', e1, e2, rd_outs_m ho (fun i j A hE => ?_)⟩
    obtain ⟨B, hB, hA⟩ := hE
    refine ⟨B, ?_, hA⟩
    cases d with
    | zero => exact hB
    | succ d => exact Or.inl hB
-- "not"s
theorem c_4_go (cx : rd_cx o tk pl V r x) (hn : cnt < 400 → V r 8 0 = -1 → tk (V r 5 0) ≠ 314) {res : dR} (h : f_X5_readPlain_37 D rC V r u = Sum.inr res) : dv_lp (f_X5_readPlain_4b D rC) (V, r, u, cnt) = res := by
  refine dv_lp_e ?_
  rw [f_X5_readPlain_4e]
  unfold f_X5_readPlain_4c
  by_cases k : 400 ≤ cnt
  · rw [if_pos k, h]
  · rw [if_neg k, dv_bn2 (c_take0 cx (hn (by omega))), if_pos rfl, h]
theorem c_4_not (cx : rd_cx o tk pl V r x) (hk : cnt < 400) (h8 : V r 8 0 = -1) (ht : tk (V r 5 0) = 314) (hu : u = 0 ∨ u = 1) : dv_lp (f_X5_readPlain_4b D rC) (V, r, u, cnt) = dv_lp (f_X5_readPlain_4b D rC) (dv_u V r 5 0 (V r 5 0 + 1), r, 1 - u, cnt + 1) := by
  refine dv_lp_s ?_
  rw [f_X5_readPlain_4e]
  unfold f_X5_readPlain_4c f_X5_readPlain_30
  rw [if_neg (by omega), dv_bn2 (c_take1 cx h8 ht), if_neg (by decide)]
  rcases hu with rfl | rfl
  · rw [if_neg (by decide), bq]; rfl
  · rw [if_pos (by decide), bq]; rfl
theorem m_2_go (k : re_cx o cd vl pl W a) (hn : W a 21 0 = -1 → cd (W a 19 0) ≠ 7) : dv_lp (f_X12_readPlain_2b d rR) (W, a, lev, 1) = dv_lp (f_X12_readPlain_2b d rR) (W, a, lev, 0) := by
  refine dv_lp_s ?_
  rw [f_X12_readPlain_2e]
  unfold f_X12_readPlain_2c
  rw [if_neg (by decide), dv_bn2 (m_take0 k hn)]
theorem m_2_not (k : re_cx o cd vl pl W a) (w8 : W a 21 0 = -1) (hc : cd (W a 19 0) = 7) : dv_lp (f_X12_readPlain_2b d rR) (W, a, lev, 1) = dv_lp (f_X12_readPlain_2b d rR) (dv_u W a 19 0 (W a 19 0 + 1), a, lev, 1) := by
  refine dv_lp_s ?_
  rw [f_X12_readPlain_2e]
  unfold f_X12_readPlain_2c
  rw [if_neg (by decide), dv_bn2 (m_take1 k w8 hc)]
theorem tk_not (T : rd_tk t c v) : t = 314 ↔ c = 7 := by unfold rd_tk rd_wp at T; omega
def rd_ns (o : Int) (cd vl : Int → Int) (d : Nat) (u : Int) (i j : Int) (A : dn) : Prop := ∃ (k : Nat) (C : dn), (∀ m : Nat, m < k → cd (i + m) = 7) ∧ cd (i + k) ≠ 7 ∧ D_pos o cd vl d (i + k) j C ∧ A = if d_tw k u = 0 then C else d_not C
theorem rd_nots (ts : rd_ts tk pl cd vl N) (hd : d ≤ 8) (hT : ∀ d', d = d' + 1 → rd_ok o tk pl cd vl N (8 - (d' : Int)) 20 (D_test o cd vl d') rC rR) (hlev : lev = 8 - (d : Int)) (n : Nat) : ∀ (V W : dV) (r x a u cnt : Int), (u = 0 ∨ u = 1) → rd_in o tk pl cd vl N V W r x a → V r 7 0 = lev → V x 2 0 + u ≤ pl (V r 5 0) → N - V r 5 0 ≤ n → cnt ≤ V r 5 0 → ∃ (V' W' : dV) (y' : Int), dv_lp (f_X5_readPlain_4b D rC) (V, r, u, cnt) = (V', 0) ∧ dv_lp (f_X12_readPlain_2b d rR) (W, a, lev, 1) = (W', y') ∧ rd_outs pl N 20 u (rd_ns o cd vl d u) V W r x a V' W' := by
  induction n with
  | zero =>
    intro V W r x a u cnt hu hi h7 hsz hn hk
    obtain ⟨T1, T2⟩ := rd_tT hi
    obtain ⟨-, cx, kx, h8, w8, at0⟩ := id hi
    have a1 := at0.1
    have n14 : tk (V r 5 0) ≠ 314 := by
      have : V r 5 0 = N := by have := at0.2.1; omega
      rw [this, ts.2.1]; decide
    have n7 : cd (V r 5 0) ≠ 7 := fun q => n14 ((tk_not T1).mpr q)
    obtain ⟨V', W', y', e1, e2, ho⟩ := rd_main (D := D) ts hd hT hlev hu hi h7 hsz
    refine ⟨V', W', y', c_4_go cx (fun _ _ => n14) e1, (m_2_go kx (fun _ => by rw [a1]; exact n7)).trans e2, ?_⟩
    obtain ⟨o1, o2, o3, o4, o5⟩ := ho
    refine ⟨o1, o2, o3, o4, fun q => ?_⟩
    obtain ⟨g1, g2, g3, g4, g5, g6, A, ⟨B, hB, hA⟩, g8⟩ := o5 q
    refine ⟨g1, g2, g3, g4, g5, g6, A, ⟨0, B, fun m hm => absurd hm (Nat.not_lt_zero m), ?_, ?_, ?_⟩, g8⟩
    · rw [Int.natCast_zero, Int.add_zero]; exact n7
    · rw [Int.natCast_zero, Int.add_zero]; exact hB
    · rw [hA]; rfl
  | succ n ih =>
    intro V W r x a u cnt hu hi h7 hsz hn hk
    obtain ⟨T1, T2⟩ := rd_tT hi
    have hiN := rd_iN hi
    obtain ⟨-, cx, kx, h8, w8, at0⟩ := id hi
    have a1 := at0.1
    have c5 := cx.2.2.2.2.1
    by_cases h14 : tk (V r 5 0) = 314
    · have c7 : cd (V r 5 0) = 7 := (tk_not T1).mp h14
      obtain ⟨i1, p1, S1, q1⟩ := hiN (by omega)
      have w1 := @rd_w1 (tk (V r 5 0))
      have tN := ts.1
      have F1 : rd_fr r x V (dv_u V r 5 0 (V r 5 0 + 1)) := rd_fr_u (by decide)
      have G1 : re_fr a W (dv_u W a 19 0 (W a 19 0 + 1)) := re_fr_u (by decide)
      have z5 : dv_u V r 5 0 (V r 5 0 + 1) r 5 0 = V r 5 0 + 1 := u_e
      have z6 : dv_u V r 5 0 (V r 5 0 + 1) r 6 0 = V r 6 0 := u_j (by decide)
      have z7 : dv_u V r 5 0 (V r 5 0 + 1) r 7 0 = V r 7 0 := u_j (by decide)
      have z8 : dv_u V r 5 0 (V r 5 0 + 1) r 8 0 = -1 := by rw [u_j (by decide), h8]
      have zx : ∀ m z, dv_u V r 5 0 (V r 5 0 + 1) x m z = V x m z := fun m z => u_b c5
      have y19 : dv_u W a 19 0 (W a 19 0 + 1) a 19 0 = V r 5 0 + 1 := by rw [u_e, a1]
      have y20 : dv_u W a 19 0 (W a 19 0 + 1) a 20 0 = V r 6 0 := by rw [u_j (by decide), at0.2.2.1]
      have y21 : dv_u W a 19 0 (W a 19 0 + 1) a 21 0 = -1 := by rw [u_j (by decide), w8]
      have C1 := c_4_not (D := D) (rC := rC) (cnt := cnt) cx (by omega) h8 h14 hu
      have R1 := m_2_not (d := d) (rR := rR) (lev := lev) kx w8 (by rw [a1]; exact c7)
      generalize dv_u V r 5 0 (V r 5 0 + 1) = V1 at F1 z5 z6 z7 z8 zx C1
      generalize dv_u W a 19 0 (W a 19 0 + 1) = W1 at G1 y19 y20 y21 R1
      have at1 : rd_at pl N V1 W1 r x a := ⟨by rw [y19, z5], by rw [z5]; have := at0.2.1; omega, by rw [y20, z6], by rw [z6]; exact at0.2.2.2.1, by rw [zx]; exact at0.2.2.2.2.1, by rw [zx, z5]; have := at0.2.2.2.2.2; omega⟩
      obtain ⟨V', W', y', e1, e2, o1, o2, o3, o4, o5⟩ := ih V1 W1 r x a (1 - u) (cnt + 1) (by omega) ⟨ts, rd_cx_f cx F1, re_cx_f kx G1, z8, y21, at1⟩ (by rw [z7, h7]) (by rw [zx, z5]; have := at0.2.2.2.2.2; omega) (by rw [z5]; omega) (by rw [z5]; omega)
      refine ⟨V', W', y', C1.trans e1, R1.trans e2, rd_fr_t F1 o1, re_fr_t G1 o2, by rw [o3, z7], o4, fun q => ?_⟩
      obtain ⟨g1, g2, g3, g4, g5, g6, A, ⟨k, C, k1, k2, k3, k4⟩, g8⟩ := o5 q
      rw [z5] at g3 g5 k1 k2 k3
      rw [zx] at g4 g5 g6 g8
      refine ⟨h8, g2, by omega, by omega, by omega, fun z hz => by rw [g6 z hz, zx], A, ⟨k + 1, C, fun m hm => ?_, ?_, ?_, ?_⟩, g8⟩
      · cases m with
        | zero => rw [Int.natCast_zero, Int.add_zero]; exact c7
        | succ m =>
          have := k1 m (by omega)
          rw [show V r 5 0 + ((m + 1 : Nat) : Int) = V r 5 0 + 1 + (m : Int) by omega]
          exact this
      · rw [show V r 5 0 + ((k + 1 : Nat) : Int) = V r 5 0 + 1 + (k : Int) by omega]; exact k2
      · rw [show V r 5 0 + ((k + 1 : Nat) : Int) = V r 5 0 + 1 + (k : Int) by omega]; exact k3
      · rw [k4]
        have e9 : d_tw k (1 - u) = d_tw (k + 1) u := by
          unfold d_tw
          by_cases q : k % 2 = 0
          · rw [if_pos q, if_neg (by omega)]
          · rw [if_neg q, if_pos (by omega)]; omega
        rw [e9]
    · have n7 : cd (V r 5 0) ≠ 7 := fun q => h14 ((tk_not T1).mpr q)
      obtain ⟨V', W', y', e1, e2, ho⟩ := rd_main (D := D) ts hd hT hlev hu hi h7 hsz
      refine ⟨V', W', y', c_4_go cx (fun _ _ => h14) e1, (m_2_go kx (fun _ => by rw [a1]; exact n7)).trans e2, ?_⟩
      obtain ⟨o1, o2, o3, o4, o5⟩ := ho
      refine ⟨o1, o2, o3, o4, fun q => ?_⟩
      obtain ⟨g1, g2, g3, g4, g5, g6, A, ⟨B, hB, hA⟩, g8⟩ := o5 q
      refine ⟨g1, g2, g3, g4, g5, g6, A, ⟨0, B, fun m hm => absurd hm (Nat.not_lt_zero m), ?_, ?_, ?_⟩, g8⟩
      · rw [Int.natCast_zero, Int.add_zero]; exact n7
      · rw [Int.natCast_zero, Int.add_zero]; exact hB
      · rw [hA]; rfl
/-- behind a fault a test is nothing -/
theorem c_plain_f (cx : rd_cx o tk pl V r x) (h : V r 8 0 ≠ -1) : ∃ V', f_X5_readPlain_B D rC V r = (V', 0) ∧ rd_fr r x V V' ∧ V' r 8 0 = V r 8 0 ∧ V' r 7 0 = V r 7 0 := by
  obtain ⟨V1, e1, f1, g8, g7⟩ := c_sum_f (D := 8) cx h
  have n8 : V1 r 8 0 ≠ -1 := by rw [g8]; exact h
  have e2 := c_37s (D := D) (rC := rC) (u := 0) cx (c_seen_f h) (by decide) e1 f1 (fun q => absurd q n8)
  rw [c_fail_f n8] at e2
  refine ⟨V1, ?_, f1, g8, g7⟩
  unfold f_X5_readPlain_B
  exact c_4_go cx (fun _ q => absurd q h) e2
theorem m_plain_f (k : re_cx o cd vl pl W a) (h : W a 21 0 ≠ -1) : f_X12_readPlain_B d rR W a lev = (W, 0) := by
  unfold f_X12_readPlain_B
  rw [m_2_go k (fun q => absurd q h), m_2_f k h]
/-- a plain test is read the same way -/
theorem rd_plain (ts : rd_ts tk pl cd vl N) (hd : d ≤ 8) (hT : ∀ d', d = d' + 1 → rd_ok o tk pl cd vl N (8 - (d' : Int)) 20 (D_test o cd vl d') rC rR) : rd_ok o tk pl cd vl N (8 - (d : Int)) 20 (D_plainF cd (D_pos o cd vl d)) (f_X5_readPlain_B D rC) (f_X12_readPlain_B d rR) := by
  intro V W r x a cx kx h7 hf hat
  by_cases h8 : V r 8 0 = -1
  · have at0 := hat h8
    have hi : rd_in o tk pl cd vl N V W r x a := ⟨ts, cx, kx, h8, hf.trans h8, at0⟩
    obtain ⟨V', W', y', e1, e2, o1, o2, o3, o4, o5⟩ := rd_nots (D := D) ts hd hT rfl (N - V r 5 0).toNat V W r x a 0 0 (Or.inl rfl) hi h7 (by have := at0.2.2.2.2.2; omega) (by omega) at0.2.1.1
    refine ⟨V', 0, W', y', e1, e2, o1, o2, o3, o4, fun q => ?_⟩
    obtain ⟨g1, g2, g3, g4, g5, g6, A, ⟨k, C, k1, k2, k3, k4⟩, g8⟩ := o5 q
    refine ⟨g1, g2, g3, g4, by omega, g6, A, ⟨k, C, k1, k2, k3, ?_⟩, g8⟩
    rw [k4]
    unfold d_nots d_tw
    by_cases q : k % 2 = 0
    · rw [if_pos q, if_pos q, if_pos rfl]
    · rw [if_neg q, if_neg q, if_neg (by decide)]
  · obtain ⟨V', e1, f1, g8, g7⟩ := c_plain_f (D := D) (rC := rC) cx h8
    exact ⟨V', 0, W, 0, e1, m_plain_f kx (by rw [hf]; exact h8), rd_bad f1 re_fr_r g7 g8 hf h8⟩
end QRX
section QRY
variable {V V' V1 V2 V3 V4 W W' W1 : dV} {r x a i t c v o p N lev h h' u cnt s oo : Int} {tk pl cd vl : Int → Int} {D d e : Nat} {P El El' : Int → Int → dn → Prop} {fC rC : dV → Int → dR} {fR rR : dV → Int → Int → dR}
theorem c_setc {y : Int} : f_X10_setCode V x p y = if p < 0 then (V, 0) else if V x 2 0 ≤ p then (V, 0) else (dv_u V x 0 p y, 0) := by
  unfold f_X10_setCode
  by_cases e : p < 0
  · rw [if_pos e, if_pos e]
  · rw [if_neg e, if_neg e, bq]
    by_cases e1 : V x 2 0 ≤ p
    · rw [if_pos e1, if_pos e1]
    · rw [if_neg e1, if_neg e1, bq]
theorem c_setc_f {y : Int} : ∃ V', f_X10_setCode V x p y = (V', 0) ∧ rd_fr r x V V' ∧ ∀ j z, x ≠ r → V' r j z = V r j z := by
  rw [c_setc]
  by_cases e : p < 0
  · exact ⟨V, by rw [if_pos e], rd_fr_r, fun _ _ _ => rfl⟩
  · by_cases e1 : V x 2 0 ≤ p
    · exact ⟨V, by rw [if_neg e, if_pos e1], rd_fr_r, fun _ _ _ => rfl⟩
    · exact ⟨_, by rw [if_neg e, if_neg e1], rd_fr_x (by decide), fun j z k => u_b (Ne.symm k)⟩
theorem c_addJ (hc : c ≠ -1) (h : V x 2 0 + 2 ≤ 400) : ∃ V', f_X10_addJump V x c = (V', V x 2 0 + 1) ∧ rd_fr r x V V' ∧ V' x 2 0 = V x 2 0 + 2 ∧ V' x 0 (V x 2 0) = c ∧ (∀ z, z < V x 2 0 → V' x 0 z = V x 0 z) ∧ ∀ j z, x ≠ r → V' r j z = V r j z := by
  have s1 : dv_u (dv_u V x 0 (V x 2 0) c) x 2 0 (V x 2 0 + 1) x 2 0 = V x 2 0 + 1 := u_e
  refine ⟨dv_u (dv_u (dv_u (dv_u V x 0 (V x 2 0) c) x 2 0 (V x 2 0 + 1)) x 0 (V x 2 0 + 1) 0) x 2 0 (V x 2 0 + 1 + 1), ?_, ?_, ?_, ?_, fun z hz => ?_, fun j z k => ?_⟩
  · unfold f_X10_addJump
    rw [dv_bn2 (c_add hc (by omega)), dv_bn2 (c_add (V := dv_u (dv_u V x 0 (V x 2 0) c) x 2 0 (V x 2 0 + 1)) (by decide) (by rw [s1]; omega)), s1, bq, bq, u_e]
    exact Prod.ext rfl (by show V x 2 0 + 1 + 1 - 1 = _; omega)
  · exact rd_fr_t (rd_fr_t (rd_fr_x (by decide)) (rd_fr_x (by decide))) (rd_fr_t (rd_fr_x (by decide)) (rd_fr_x (by decide)))
  · rw [u_e]; omega
  · rw [u_j (by decide), u_i (by omega), u_j (by decide), u_e]
  · rw [u_j (by decide), u_i (by omega), u_j (by decide), u_i (by omega)]
  · rw [u_b (Ne.symm k), u_b (Ne.symm k), u_b (Ne.symm k), u_b (Ne.symm k)]
-- the class's loop
theorem c_T_end (cx : rd_cx o tk pl V r x) (hn : V r 8 0 = -1 → tk (V r 5 0) ≠ 312 ∧ tk (V r 5 0) ≠ 313) : dv_lp (f_X5_readTest_8b D fC) (V, r, oo, cnt) = ((f_X10_setCode V x oo (V x 2 0)).1, 0) := by
  have e128 : f_X5_readTest_128 D fC V r oo = Sum.inr ((f_X10_setCode V x oo (V x 2 0)).1, 0) := by
    unfold f_X5_readTest_128
    rw [bq, bq, bq, bq2, cx.2.2.1]
  refine dv_lp_e ?_
  rw [f_X5_readTest_8e]
  unfold f_X5_readTest_8c
  by_cases k : 400 ≤ cnt
  · rw [if_pos k, e128]
  · rw [if_neg k]
    by_cases h8 : V r 8 0 = -1
    · rw [dv_bn2 (c_seen cx h8), if_neg (hn h8).1, dv_bn2 (c_seen cx h8), if_pos (hn h8).2, e128]
    · rw [dv_bn2 (c_seen_f h8), if_neg (by decide), dv_bn2 (c_seen_f h8), if_pos (by decide), e128]
theorem c_T_or (cx : rd_cx o tk pl V r x) (hk : cnt < 400) (h8 : V r 8 0 = -1) (ht : tk (V r 5 0) = 312) {y j : Int} (hs : f_X10_setCode (dv_u V r 5 0 (V r 5 0 + 1)) x oo (V x 2 0) = (V2, 0)) (f2 : rd_fr r x V V2) (hj : f_X10_addJump V2 x 3010 = (V3, j)) (hr : fC V3 r = (V4, y)) : dv_lp (f_X5_readTest_8b D fC) (V, r, oo, cnt) = dv_lp (f_X5_readTest_8b D fC) (V4, r, j, cnt + 1) := by
  have c5 := cx.2.2.2.2.1
  have hs' := c_seen cx h8
  rw [ht] at hs'
  refine dv_lp_s ?_
  rw [f_X5_readTest_8e]
  unfold f_X5_readTest_8c f_X5_readTest_122
  rw [if_neg (by omega), dv_bn2 hs', if_pos rfl, dv_bn2 (c_take1 cx h8 ht), if_neg (by decide), bq, bq, bq, u_j (show (3 : Nat) ≠ 5 by decide), cx.2.2.1, u_b c5, dv_bn2 hs, bq, (rd_cx_f cx f2).2.2.1, dv_bn2 hj, dv_bn2 hr, bq]
theorem c_T_and (cx : rd_cx o tk pl V r x) (hk : cnt < 400) (h8 : V r 8 0 = -1) (ht : tk (V r 5 0) = 313) {y j : Int} (hj : f_X10_addJump (dv_u V r 5 0 (V r 5 0 + 1)) x 3009 = (V3, j)) (hr : fC V3 r = (V4, y)) (f4 : rd_fr r x V V4) : dv_lp (f_X5_readTest_8b D fC) (V, r, oo, cnt) = dv_lp (f_X5_readTest_8b D fC) ((f_X10_setCode V4 x j (V4 x 2 0)).1, r, oo, cnt + 1) := by
  have c5 := cx.2.2.2.2.1
  have hs' := c_seen cx h8
  rw [ht] at hs'
  refine dv_lp_s ?_
  rw [f_X5_readTest_8e]
  unfold f_X5_readTest_8c f_X5_readTest_122x2
  rw [if_neg (by omega), dv_bn2 hs', if_neg (by decide), dv_bn2 hs', if_neg (by decide), dv_bn2 (c_take0 cx (fun _ => by rw [ht]; decide)), if_pos rfl, bq, bq, bq, bq, u_j (show (3 : Nat) ≠ 5 by decide), cx.2.2.1, dv_bn2 hj, dv_bn2 hr, bq, bq, bq, (rd_cx_f cx f4).2.2.1, bq2, bq]
-- the reference's loops
theorem m_B_end (k : re_cx o cd vl pl W a) (hc : W a 21 0 = -1 → cd (W a 19 0) ≠ 6) : dv_lp (f_X12_readBoth_5b e fR) (W, a, lev) = (W, 0) := by
  refine dv_lp_e ?_
  rw [f_X12_readBoth_5e]
  unfold f_X12_readBoth_5c
  rw [dv_bn2 (m_take0 k hc), if_pos rfl]
theorem m_B_and (k : re_cx o cd vl pl W a) (w8 : W a 21 0 = -1) (hc : cd (W a 19 0) = 6) {y : Int} (hr : fR (dv_u W a 19 0 (W a 19 0 + 1)) a lev = (W1, y)) : dv_lp (f_X12_readBoth_5b e fR) (W, a, lev) = dv_lp (f_X12_readBoth_5b e fR) (W1, a, lev) := by
  refine dv_lp_s ?_
  rw [f_X12_readBoth_5e]
  unfold f_X12_readBoth_5c
  rw [dv_bn2 (m_take1 k w8 hc), if_neg (by decide), dv_bn2 hr]
theorem m_T_end (k : re_cx o cd vl pl W a) (hc : W a 21 0 = -1 → cd (W a 19 0) ≠ 5) : dv_lp (f_X12_readTest_5b e fR) (W, a, lev) = (W, 0) := by
  refine dv_lp_e ?_
  rw [f_X12_readTest_5e]
  unfold f_X12_readTest_5c
  rw [dv_bn2 (m_take0 k hc), if_pos rfl]
theorem m_T_or (k : re_cx o cd vl pl W a) (w8 : W a 21 0 = -1) (hc : cd (W a 19 0) = 5) {y : Int} (hr : fR (dv_u W a 19 0 (W a 19 0 + 1)) a lev = (W1, y)) : dv_lp (f_X12_readTest_5b e fR) (W, a, lev) = dv_lp (f_X12_readTest_5b e fR) (W1, a, lev) := by
  refine dv_lp_s ?_
  rw [f_X12_readTest_5e]
  unfold f_X12_readTest_5c
  rw [dv_bn2 (m_take1 k w8 hc), if_neg (by decide), dv_bn2 hr]
theorem tk_oa (T : rd_tk t c v) : (t = 312 ↔ c = 5) ∧ (t = 313 ↔ c = 6) := by unfold rd_tk rd_wp at T; omega
-- what has been read so far
def rt_pd (X : Int → Int) (p0 q oo : Int) (cb : dn → dn) (T : dn) : Prop := (oo = -1 ∧ (cb = fun T' => T') ∧ K_seg X p0 q T 20) ∨ ∃ (m : Int) (S : dn), 0 ≤ m ∧ oo = m + 1 ∧ X m = 3010 ∧ (cb = fun T' => d_or S T') ∧ K_seg X p0 m S 20 ∧ K_seg X (m + 2) q T 20
theorem rt_pd_and {X X' : Int → Int} {p0 q q1 oo : Int} {cb : dn → dn} {T B : dn} (h : rt_pd X p0 q oo cb T) (hX : ∀ z, z < q → X' z = X z) (hc : X' q = 3009) (hj : X' (q + 1) = q1) (hB : K_seg X' (q + 2) q1 B 20) : rt_pd X' p0 q1 oo cb (d_and T B) := by
  rcases h with ⟨h1, h2, h3⟩ | ⟨m, S, h0, h1, h2, h3, h4, h5⟩
  · exact Or.inl ⟨h1, h2, K_and (K_seg_c h3 (fun z _ z1 => hX z z1)) hB hc hj (by omega) (by omega)⟩
  · have := h5.1
    exact Or.inr ⟨m, S, h0, h1, by rw [hX m (by omega), h2], h3, K_seg_c h4 (fun z _ z1 => hX z (by omega)), K_and (K_seg_c h5 (fun z _ z1 => hX z z1)) hB hc hj (by omega) (by omega)⟩
theorem rt_close {p0 : Int} {cb : dn → dn} {T : dn} (c5 : x ≠ r) (h : rt_pd (V x 0) p0 (V x 2 0) oo cb T) : ∃ V', f_X10_setCode V x oo (V x 2 0) = (V', 0) ∧ rd_fr r x V V' ∧ (∀ j z, V' r j z = V r j z) ∧ V' x 2 0 = V x 2 0 ∧ (∀ z, z < p0 → V' x 0 z = V x 0 z) ∧ K_seg (V' x 0) p0 (V' x 2 0) (cb T) 20 := by
  rw [c_setc]
  rcases h with ⟨h1, h2, h3⟩ | ⟨m, S, h0, h1, h2, h3, h4, h5⟩
  · exact ⟨V, by rw [if_pos (by omega)], rd_fr_r, fun _ _ => rfl, rfl, fun _ _ => rfl, by rw [h2]; exact h3⟩
  · have := h5.1
    have := h4.1
    have v2 : dv_u V x 0 oo (V x 2 0) x 2 0 = V x 2 0 := u_j (by decide)
    have vz : ∀ z, z ≠ m + 1 → dv_u V x 0 oo (V x 2 0) x 0 z = V x 0 z := fun z hz => u_i (by omega)
    refine ⟨_, by rw [if_neg (by omega), if_neg (by omega)], rd_fr_x (by decide), fun j z => u_b (Ne.symm c5), v2, fun z hz => vz z (by omega), ?_⟩
    rw [v2, h3]
    refine K_or (K_seg_c h4 (fun z _ z1 => vz z (by omega))) (K_seg_c h5 (fun z z0 _ => vz z (by omega))) (by rw [vz m (by omega), h2]) ?_ (by omega) (by omega)
    rw [← h1, u_e]
def TB (cd : Int → Int) (P : Int → Int → dn → Prop) (i j : Int) (A : dn) : Prop := ∃ (m : Int) (B : dn) (n : Nat), P i m B ∧ d_ch (fun c => c = 6) cd P (fun _ => d_and) n m B j A
def TT (cd : Int → Int) (P : Int → Int → dn → Prop) (i j : Int) (A : dn) : Prop := ∃ (m : Int) (B : dn) (n : Nat), TB cd P i m B ∧ d_ch (fun c => c = 5) cd (TB cd P) (fun _ => d_or) n m B j A
def rt_g (cd : Int → Int) (P : Int → Int → dn → Prop) (i0 : Int) (cb : dn → dn) (T : dn) (i : Int) : Prop := ∀ (n : Nat) (j : Int) (T' : dn), d_ch (fun c => c = 6) cd P (fun _ => d_and) n i T j T' → ∀ (n' : Nat) (k : Int) (R : dn), d_ch (fun c => c = 5) cd (TB cd P) (fun _ => d_or) n' j (cb T') k R → TT cd P i0 k R
theorem rt_g_start {i0 : Int} {T : dn} (h : P i0 i T) : rt_g cd P i0 (fun T' => T') T i := fun n j T' h1 n' k R h2 => ⟨j, T', n', ⟨i, T, n, h, h1⟩, h2⟩
theorem rt_g_and {i0 m : Int} {cb : dn → dn} {T B : dn} (h : rt_g cd P i0 cb T i) (hm : cd i = 6) (hB : P (i + 1) m B) : rt_g cd P i0 cb (d_and T B) m := fun n j T' h1 => h (n + 1) j T' ⟨hm, m, B, hB, h1⟩
theorem rt_g_or {i0 m : Int} {cb : dn → dn} {T B : dn} (h : rt_g cd P i0 cb T i) (ha : cd i = 5) (hB : P (i + 1) m B) : rt_g cd P i0 (fun T' => d_or (cb T) T') B m := fun n j T' h1 n' k R h2 => h 0 i T ⟨rfl, rfl, fun q => by have q : cd i = 6 := q; omega⟩ (n' + 1) k R ⟨ha, j, T', ⟨m, B, n, hB, h1⟩, h2⟩
theorem rt_g_end {i0 : Int} {cb : dn → dn} {T : dn} (h : rt_g cd P i0 cb T i) (hm : cd i ≠ 6) (ha : cd i ≠ 5) : TT cd P i0 i (cb T) := h 0 i T ⟨rfl, rfl, hm⟩ 0 i (cb T) ⟨rfl, rfl, ha⟩
/-- behind a fault the loops end -/
theorem rt_F (cx : rd_cx o tk pl V r x) (kx : re_cx o cd vl pl W a) (h8 : V r 8 0 ≠ -1) (w8 : W a 21 0 ≠ -1) : ∃ V', dv_lp (f_X5_readTest_8b D fC) (V, r, oo, cnt) = (V', 0) ∧ dv_lp (f_X12_readBoth_5b e fR) (W, a, lev) = (W, 0) ∧ dv_lp (f_X12_readTest_5b e (f_X12_readBoth_B e fR)) (W, a, lev) = (W, 0) ∧ rd_fr r x V V' ∧ ∀ j z, V' r j z = V r j z := by
  obtain ⟨V', e1, f1, g1⟩ := c_setc_f (V := V) (x := x) (p := oo) (y := V x 2 0) (r := r)
  refine ⟨V', ?_, m_B_end kx (fun q => absurd q w8), m_T_end kx (fun q => absurd q w8), f1, fun j z => g1 j z cx.2.2.2.2.1⟩
  rw [c_T_end cx (fun q => absurd q h8), e1]
end QRY
