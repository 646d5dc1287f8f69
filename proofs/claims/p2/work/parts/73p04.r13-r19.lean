section QRZ
variable {V V' V1 V2 V3 V4 W W' W1 : dV} {r x a i t c v o p N lev h h' u cnt s oo : Int} {tk pl cd vl : Int → Int} {D d e : Nat} {P El El' : Int → Int → dn → Prop} {fC rC : dV → Int → dR} {fR rR : dV → Int → Int → dR}
theorem rt_L (ts : rd_ts tk pl cd vl N) (hP : rd_ok o tk pl cd vl N lev 20 P fC fR) (n : Nat) : ∀ (V W : dV) (r x a oo cnt p0 i0 : Int) (cb : dn → dn) (T : dn), rd_in o tk pl cd vl N V W r x a → V r 7 0 = lev → N - V r 5 0 ≤ n → cnt < V r 5 0 → p0 < V x 2 0 → rt_pd (V x 0) p0 (V x 2 0) oo cb T → rt_g cd P i0 cb T (V r 5 0) → ∃ (V' : dV) (y : Int) (W1 : dV) (y1 : Int) (W' : dV) (y' : Int), dv_lp (f_X5_readTest_8b D fC) (V, r, oo, cnt) = (V', y) ∧ dv_lp (f_X12_readBoth_5b e fR) (W, a, lev) = (W1, y1) ∧ dv_lp (f_X12_readTest_5b e (f_X12_readBoth_B e fR)) (W1, a, lev) = (W', y') ∧ rd_fr r x V V' ∧ re_fr a W W' ∧ V' r 7 0 = V r 7 0 ∧ W' a 21 0 = V' r 8 0 ∧ (V' r 8 0 = -1 → rd_at pl N V' W' r x a ∧ V r 5 0 ≤ V' r 5 0 ∧ V x 2 0 ≤ V' x 2 0 ∧ V' x 2 0 - V x 2 0 ≤ pl (V' r 5 0) - pl (V r 5 0) ∧ (∀ z, z < p0 → V' x 0 z = V x 0 z) ∧ ∃ A, TT cd P i0 (V' r 5 0) A ∧ K_seg (V' x 0) p0 (V' x 2 0) A 20) := by
  induction n using Nat.strongRecOn with
  | ind n ih =>
  intro V W r x a oo cnt p0 i0 cb T hi h7 hn hk hp pd g
  obtain ⟨T1, T2⟩ := rd_tT hi
  have hiN := rd_iN hi
  obtain ⟨-, cx, kx, h8, w8, at0⟩ := id hi
  obtain ⟨a1, a2, a3, a4, a5, a6⟩ := id at0
  have c5 := cx.2.2.2.2.1
  have tN := ts.1
  obtain ⟨tO, tA⟩ := tk_oa T1
  have F1 : rd_fr r x V (dv_u V r 5 0 (V r 5 0 + 1)) := rd_fr_u (by decide)
  have G1 : re_fr a W (dv_u W a 19 0 (W a 19 0 + 1)) := re_fr_u (by decide)
  have z5 : dv_u V r 5 0 (V r 5 0 + 1) r 5 0 = V r 5 0 + 1 := u_e
  have z6 : dv_u V r 5 0 (V r 5 0 + 1) r 6 0 = V r 6 0 := u_j (by decide)
  have z7 : dv_u V r 5 0 (V r 5 0 + 1) r 7 0 = V r 7 0 := u_j (by decide)
  have z8 : dv_u V r 5 0 (V r 5 0 + 1) r 8 0 = -1 := by rw [u_j (by decide), h8]
  have zx : ∀ m z, dv_u V r 5 0 (V r 5 0 + 1) x m z = V x m z := fun m z => u_b c5
  have zxf : dv_u V r 5 0 (V r 5 0 + 1) x 0 = V x 0 := funext (fun z => zx 0 z)
  have y19 : dv_u W a 19 0 (W a 19 0 + 1) a 19 0 = V r 5 0 + 1 := by rw [u_e, a1]
  have y20 : dv_u W a 19 0 (W a 19 0 + 1) a 20 0 = V r 6 0 := by rw [u_j (by decide), a3]
  have y21 : dv_u W a 19 0 (W a 19 0 + 1) a 21 0 = -1 := by rw [u_j (by decide), w8]
  by_cases hm : cd (V r 5 0) = 6
  · -- and
    have ht := tA.mpr hm
    obtain ⟨i1, p1, S1, q1⟩ := hiN (by omega)
    have w3 : rd_w (tk (V r 5 0)) = 3 := by rw [ht]; rfl
    have C1 := fun (V3 V4 : dV) (y j : Int) => c_T_and (V3 := V3) (V4 := V4) (D := D) (fC := fC) (oo := oo) (cnt := cnt) (y := y) (j := j) cx (by omega) h8 ht
    have R1 := fun (W2 : dV) (y : Int) => m_B_and (W1 := W2) (e := e) (fR := fR) (lev := lev) (y := y) kx w8 (by rw [a1]; exact hm)
    generalize dv_u V r 5 0 (V r 5 0 + 1) = V1 at F1 z5 z6 z7 z8 zx zxf C1
    generalize dv_u W a 19 0 (W a 19 0 + 1) = W1 at G1 y19 y20 y21 R1
    obtain ⟨V3, ej, fj, j2, jc, jz, jr⟩ := c_addJ (V := V1) (x := x) (r := r) (c := 3009) (by decide) (by rw [zx]; omega)
    have jr : ∀ j z, V3 r j z = V1 r j z := fun j z => jr j z c5
    rw [zx] at ej j2 jc jz
    have F3 := rd_fr_t F1 fj
    have at3 : rd_at pl N V3 W1 r x a := ⟨by rw [y19, jr, z5], by rw [jr, z5]; omega, by rw [y20, jr, z6], by rw [jr, z6]; exact a4, by rw [j2]; omega, by rw [j2, jr, z5]; omega⟩
    obtain ⟨V4, y, W2, y', e1, e2, o1, o2, o3, o4, o5⟩ := hP V3 W1 r x a (rd_cx_f cx F3) (re_cx_f kx G1) (by rw [jr, z7, h7]) (by rw [y21, jr, z8]) (fun _ => at3)
    have F4 := rd_fr_t F3 o1
    have G2 := re_fr_t G1 o2
    have C2 := C1 V3 V4 y (V x 2 0 + 1) ej e1 F4
    have R2 := R1 W2 y' e2
    have cx4 := rd_cx_f cx F4
    have kx2 := re_cx_f kx G2
    by_cases g8 : V4 r 8 0 = -1
    · obtain ⟨p8, at4, p5, px, pp, pz, B, pB, pK⟩ := o5 g8
      obtain ⟨b1, b2, b3, b4, b5, b6⟩ := id at4
      rw [jr, z5] at p5 pp pB
      rw [j2] at px pp pz pK
      rw [c_setc, if_neg (by omega), if_neg (by omega)] at C2
      dsimp only at C2
      have F5 : rd_fr r x V (dv_u V4 x 0 (V x 2 0 + 1) (V4 x 2 0)) := rd_fr_t F4 (rd_fr_x (by decide))
      have vr : ∀ m z, dv_u V4 x 0 (V x 2 0 + 1) (V4 x 2 0) r m z = V4 r m z := fun m z => u_b (Ne.symm c5)
      have v2 : dv_u V4 x 0 (V x 2 0 + 1) (V4 x 2 0) x 2 0 = V4 x 2 0 := u_j (by decide)
      have vj : dv_u V4 x 0 (V x 2 0 + 1) (V4 x 2 0) x 0 (V x 2 0 + 1) = V4 x 2 0 := u_e
      have vz : ∀ z, z ≠ V x 2 0 + 1 → dv_u V4 x 0 (V x 2 0 + 1) (V4 x 2 0) x 0 z = V4 x 0 z := fun z hz => u_i hz
      generalize dv_u V4 x 0 (V x 2 0 + 1) (V4 x 2 0) = V5 at C2 F5 vr v2 vj vz
      have at5 : rd_at pl N V5 W2 r x a := ⟨by rw [vr]; exact b1, by rw [vr]; exact b2, by rw [vr]; exact b3, by rw [vr]; exact b4, by rw [v2]; omega, by rw [v2, vr]; exact b6⟩
      have pd5 : rt_pd (V5 x 0) p0 (V5 x 2 0) oo cb (d_and T B) := by
        rw [v2]
        exact rt_pd_and pd (fun z z1 => by rw [vz z (by omega), pz z (by omega), jz z z1, zx]) (by rw [vz _ (by omega), pz _ (by omega), jc]) vj (K_seg_c pK (fun z z0 _ => vz z (by omega)))
      obtain ⟨V', u, Wt, ut, W', u', L1, L2, L3, L4, L5, L6, L7, L8⟩ := ih (n - 1) (by omega) V5 W2 r x a oo (cnt + 1) p0 i0 cb (d_and T B) ⟨ts, rd_cx_f cx F5, kx2, by rw [vr]; exact g8, o4.trans g8, at5⟩ (by rw [vr, o3, jr, z7, h7]) (by rw [vr]; omega) (by rw [vr]; omega) (by rw [v2]; omega) pd5 (by rw [vr]; exact rt_g_and g hm pB)
      refine ⟨V', u, Wt, ut, W', u', C2.trans L1, R2.trans L2, L3, rd_fr_t F5 L4, re_fr_t G2 L5, by rw [L6, vr, o3, jr, z7], L7, fun q => ?_⟩
      obtain ⟨M1, M2, M3, M4, M5, M6⟩ := L8 q
      rw [vr] at M2 M4
      rw [v2] at M3 M4
      exact ⟨M1, by omega, by omega, by omega, fun z hz => by rw [M5 z hz, vz z (by omega), pz z (by omega), jz z (by omega), zx], M6⟩
    · obtain ⟨V5, e5, f5, vr⟩ := c_setc_f (V := V4) (x := x) (p := V x 2 0 + 1) (y := V4 x 2 0) (r := r)
      have vr : ∀ j z, V5 r j z = V4 r j z := fun j z => vr j z c5
      rw [e5] at C2
      dsimp only at C2
      obtain ⟨V', L1, L2, L3, L4, L5⟩ := rt_F (D := D) (e := e) (fC := fC) (fR := fR) (lev := lev) (oo := oo) (cnt := cnt + 1) (rd_cx_f cx4 f5) kx2 (by rw [vr]; exact g8) (by rw [o4]; exact g8)
      refine ⟨V', 0, W2, 0, W2, 0, C2.trans L1, R2.trans L2, L3, rd_fr_t F4 (rd_fr_t f5 L4), G2, by rw [L5, vr, o3, jr, z7], by rw [L5, vr, o4], fun q => ?_⟩
      rw [L5, vr] at q
      exact absurd q g8
  · by_cases ha : cd (V r 5 0) = 5
    · -- or
      have ht := tO.mpr ha
      obtain ⟨i1, p1, S1, q1⟩ := hiN (by omega)
      have w2 : rd_w (tk (V r 5 0)) = 2 := by rw [ht]; rfl
      have C1 := fun (V2 V3 V4 : dV) (y j : Int) => c_T_or (V2 := V2) (V3 := V3) (V4 := V4) (D := D) (fC := fC) (oo := oo) (cnt := cnt) (y := y) (j := j) cx (by omega) h8 ht
      have R1 := fun (W2 : dV) (y : Int) => m_T_or (W1 := W2) (e := e) (fR := f_X12_readBoth_B e fR) (lev := lev) (y := y) kx w8 (by rw [a1]; exact ha)
      have Re := m_B_end (W := W) (e := e) (fR := fR) (lev := lev) kx (fun _ => by rw [a1]; exact hm)
      generalize dv_u V r 5 0 (V r 5 0 + 1) = V1 at F1 z5 z6 z7 z8 zx zxf C1
      generalize dv_u W a 19 0 (W a 19 0 + 1) = W1 at G1 y19 y20 y21 R1
      obtain ⟨V2, ec, fc, vcr, vc2, vcz, vcK⟩ := rt_close (V := V1) (r := r) (p0 := p0) (cb := cb) (T := T) (oo := oo) c5 (by rw [zx, zxf]; exact pd)
      rw [zx] at vc2 ec
      obtain ⟨V3, ej, fj, j2, jc, jz, jr⟩ := c_addJ (V := V2) (x := x) (r := r) (c := 3010) (by decide) (by rw [vc2]; omega)
      have jr : ∀ j z, V3 r j z = V2 r j z := fun j z => jr j z c5
      rw [vc2] at ej j2 jc jz vcK
      have F2 := rd_fr_t F1 fc
      have F3 := rd_fr_t F2 fj
      have at3 : rd_at pl N V3 W1 r x a := ⟨by rw [y19, jr, vcr, z5], by rw [jr, vcr, z5]; omega, by rw [y20, jr, vcr, z6], by rw [jr, vcr, z6]; exact a4, by rw [j2]; omega, by rw [j2, jr, vcr, z5]; omega⟩
      obtain ⟨V4, y, W2, y', e1, e2, o1, o2, o3, o4, o5⟩ := hP V3 W1 r x a (rd_cx_f cx F3) (re_cx_f kx G1) (by rw [jr, vcr, z7, h7]) (by rw [y21, jr, vcr, z8]) (fun _ => at3)
      have F4 := rd_fr_t F3 o1
      have G2 := re_fr_t G1 o2
      have C2 := C1 V2 V3 V4 y (V x 2 0 + 1) ec F2 ej e1
      have cx4 := rd_cx_f cx F4
      have kx2 := re_cx_f kx G2
      have RT : f_X12_readBoth_B e fR W1 a lev = dv_lp (f_X12_readBoth_5b e fR) (W2, a, lev) := by
        unfold f_X12_readBoth_B
        rw [dv_bn2 e2]
      by_cases g8 : V4 r 8 0 = -1
      · obtain ⟨p8, at4, p5, px, pp, pz, B, pB, pK⟩ := o5 g8
        obtain ⟨b1, b2, b3, b4, b5, b6⟩ := id at4
        rw [jr, vcr, z5] at p5 pp pB
        rw [j2] at px pp pz pK
        have pd4 : rt_pd (V4 x 0) p0 (V4 x 2 0) (V x 2 0 + 1) (fun T' => d_or (cb T) T') B := Or.inr ⟨V x 2 0, cb T, a5, rfl, by rw [pz _ (by omega), jc], rfl, K_seg_c vcK (fun z _ z1 => by rw [pz z (by omega), jz z z1]), pK⟩
        obtain ⟨V', u, Wt, ut, W', u', L1, L2, L3, L4, L5, L6, L7, L8⟩ := ih (n - 1) (by omega) V4 W2 r x a (V x 2 0 + 1) (cnt + 1) p0 i0 (fun T' => d_or (cb T) T') B ⟨ts, cx4, kx2, g8, o4.trans g8, at4⟩ (by rw [o3, jr, vcr, z7, h7]) (by omega) (by omega) (by omega) pd4 (rt_g_or g ha pB)
        refine ⟨V', u, W, 0, W', u', C2.trans L1, Re, (R1 Wt ut (RT.trans L2)).trans L3, rd_fr_t F4 L4, re_fr_t G2 L5, by rw [L6, o3, jr, vcr, z7], L7, fun q => ?_⟩
        obtain ⟨M1, M2, M3, M4, M5, M6⟩ := L8 q
        exact ⟨M1, by omega, by omega, by omega, fun z hz => by rw [M5 z hz, pz z (by omega), jz z (by omega), vcz z hz, zx], M6⟩
      · obtain ⟨V', L1, L2, L3, L4, L5⟩ := rt_F (D := D) (e := e) (fC := fC) (fR := fR) (lev := lev) (oo := V x 2 0 + 1) (cnt := cnt + 1) cx4 kx2 g8 (by rw [o4]; exact g8)
        refine ⟨V', 0, W, 0, W2, 0, C2.trans L1, Re, (R1 W2 0 (RT.trans L2)).trans L3, rd_fr_t F4 L4, G2, by rw [L5, o3, jr, vcr, z7], by rw [L5, o4], fun q => ?_⟩
        rw [L5] at q
        exact absurd q g8
    · -- the end of the TEST
      have e8 := c_T_end (D := D) (fC := fC) (oo := oo) (cnt := cnt) cx (fun _ => ⟨fun q => ha (tO.mp q), fun q => hm (tA.mp q)⟩)
      obtain ⟨V', ec, fc, vcr, vc2, vcz, vcK⟩ := rt_close (V := V) (r := r) (p0 := p0) (cb := cb) (T := T) (oo := oo) c5 pd
      rw [ec] at e8
      refine ⟨V', 0, W, 0, W, 0, e8, m_B_end kx (fun _ => by rw [a1]; exact hm), m_T_end kx (fun _ => by rw [a1]; exact ha), fc, re_fr_r, vcr 7 0, by rw [vcr, h8, w8], fun _ => ?_⟩
      rw [vcr]
      exact ⟨⟨by rw [vcr]; exact a1, by rw [vcr]; exact a2, by rw [vcr]; exact a3, by rw [vcr]; exact a4, by rw [vc2]; exact a5, by rw [vc2, vcr]; exact a6⟩, by omega, by rw [vc2]; omega, by rw [vc2]; omega, vcz, cb T, rt_g_end g hm ha, vcK⟩
theorem rd_testB (ts : rd_ts tk pl cd vl N) (hP : rd_ok o tk pl cd vl N lev 20 P fC fR) : rd_ok o tk pl cd vl N lev 20 (TT cd P) (f_X5_readTest_B D fC) (f_X12_readTest_B e (f_X12_readBoth_B e fR)) := by
  intro V W r x a cx kx h7 hf hat
  obtain ⟨V1, y, W1, y', e1, e2, o1, o2, o3, o4, o5⟩ := hP V W r x a cx kx h7 hf hat
  have cx1 := rd_cx_f cx o1
  have kx1 := re_cx_f kx o2
  have E1 : f_X5_readTest_B D fC V r = dv_lp (f_X5_readTest_8b D fC) (V1, r, -1, 0) := by
    unfold f_X5_readTest_B
    rw [dv_bn2 e1]
  have E2 : f_X12_readBoth_B e fR W a lev = dv_lp (f_X12_readBoth_5b e fR) (W1, a, lev) := by
    unfold f_X12_readBoth_B
    rw [dv_bn2 e2]
  have E3 : ∀ {W2 : dV} {y2 : Int}, dv_lp (f_X12_readBoth_5b e fR) (W1, a, lev) = (W2, y2) → f_X12_readTest_B e (f_X12_readBoth_B e fR) W a lev = dv_lp (f_X12_readTest_5b e (f_X12_readBoth_B e fR)) (W2, a, lev) := by
    intro W2 y2 q
    unfold f_X12_readTest_B
    rw [dv_bn2 (E2.trans q)]
  by_cases g8 : V1 r 8 0 = -1
  · obtain ⟨p8, at1, p5, px, pp, pz, A, pA, pK⟩ := o5 g8
    have a2 := (hat p8).2.1
    obtain ⟨V', u, Wt, ut, W', u', L1, L2, L3, L4, L5, L6, L7, L8⟩ := rt_L (D := D) (e := e) ts hP (N - V1 r 5 0).toNat V1 W1 r x a (-1) 0 (V x 2 0) (V r 5 0) (fun T' => T') A ⟨ts, cx1, kx1, g8, o4.trans g8, at1⟩ (by rw [o3, h7]) (by omega) (by omega) px (Or.inl ⟨rfl, rfl, pK⟩) (rt_g_start pA)
    refine ⟨V', u, W', u', E1.trans L1, (E3 L2).trans L3, rd_fr_t o1 L4, re_fr_t o2 L5, by rw [L6, o3], L7, fun q => ?_⟩
    obtain ⟨M1, M2, M3, M4, M5, M6⟩ := L8 q
    exact ⟨p8, M1, by omega, by omega, by omega, fun z hz => by rw [M5 z hz, pz z hz], M6⟩
  · obtain ⟨V', L1, L2, L3, L4, L5⟩ := rt_F (D := D) (e := e) (fC := fC) (fR := fR) (lev := lev) (oo := -1) (cnt := 0) cx1 kx1 g8 (by rw [o4]; exact g8)
    refine ⟨V', 0, W1, 0, E1.trans L1, (E3 L2).trans L3, rd_fr_t o1 L4, o2, by rw [L5, o3], by rw [L5, o4], fun q => ?_⟩
    rw [L5] at q
    exact absurd q g8
/-- a TEST is read the same way -/
theorem rd_test (ts : rd_ts tk pl cd vl N) (d : Nat) : d ≤ 8 → ∀ D, d ≤ D → rd_ok o tk pl cd vl N (8 - (d : Int)) 20 (D_test o cd vl d) (f_X5_readTest D) (f_X12_readTest d) := by
  induction d with
  | zero =>
    intro hd D hD V W r x a cx kx h7 hf hat
    have hP := rd_plain (d := 0) (D := D) (o := o) (rC := dv_pre (fun _ _ => dv_z) f_X5_readTest D) (rR := dv_pre (fun _ _ _ => dv_z) f_X12_readTest 0) ts hd (fun d' q => by omega)
    rw [f_X5_readTest_d, f_X12_readTest_d]
    exact rd_testB (D := D) (e := 0) ts hP V W r x a cx kx h7 hf hat
  | succ d ih =>
    intro hd D hD V W r x a cx kx h7 hf hat
    obtain ⟨D, rfl⟩ : ∃ D', D = D' + 1 := ⟨D - 1, by omega⟩
    have hP := rd_plain (d := d + 1) (D := D + 1) (o := o) (rC := dv_pre (fun _ _ => dv_z) f_X5_readTest (D + 1)) (rR := dv_pre (fun _ _ _ => dv_z) f_X12_readTest (d + 1)) ts hd (fun d' q => by cases q; exact ih (by omega) D (by omega))
    rw [f_X5_readTest_d, f_X12_readTest_d]
    exact rd_testB (D := D + 1) (e := d + 1) ts hP V W r x a cx kx h7 hf hat
end QRZ
section QRC
variable {V V' V1 V2 V3 V4 W W' W1 : dV} {r x a i t c v o p N lev h u s k w y ns j : Int} {tk pl cd vl : Int → Int} {D d e : Nat}
/-- the reader, its text and the marks of its clause k have changed -/
def rk_fr (k r x : Int) (V V' : dV) : Prop := ∀ b m z, ¬ (b = r ∧ (m = 5 ∨ m = 6 ∨ m = 7 ∨ m = 8)) → ¬ (b = x ∧ (m = 0 ∨ m = 2)) → ¬ (b = x ∧ m = 1 ∧ (k - 1) * 8 ≤ z ∧ z < k * 8) → V' b m z = V b m z
theorem rk_fr_d (f : rd_fr r x V V') : rk_fr k r x V V' := fun b m z k1 k2 _ => f b m z k1 k2
theorem rk_fr_r : rk_fr k r x V V := fun _ _ _ _ _ _ => rfl
theorem rk_fr_t (f : rk_fr k r x V V') (g : rk_fr k r x V' V1) : rk_fr k r x V V1 := fun b m z k1 k2 k3 => (g b m z k1 k2 k3).trans (f b m z k1 k2 k3)
theorem rk_fr_m (h0 : 0 ≤ w) (h8 : w < 8) : rk_fr k r x V (dv_u V x 1 ((k - 1) * 8 + w) y) := fun b m z _ _ k3 => by
  unfold dv_u
  rw [if_neg (fun q => k3 ⟨q.1, q.2.1, by have := q.2.2; omega, by have := q.2.2; omega⟩)]
theorem rk_cx_f (c : rd_cx o tk pl V r x) (f : rk_fr k r x V V') : rd_cx o tk pl V' r x := by
  obtain ⟨h1, h2, h3, h4, h5, h6⟩ := c
  have q : ∀ (j : Nat) (z : Int), j < 5 → V' r j z = V r j z := fun j z hj => f r j z (fun q => by omega) (fun q => h5 q.1.symm) (fun q => h5 q.1.symm)
  exact ⟨fun z => by rw [q 0 z (by decide)]; exact h1 z, fun z => by rw [q 1 z (by decide)]; exact h2 z, by rw [q 3 0 (by decide)]; exact h3, by rw [q 4 0 (by decide)]; exact h4, h5, h6⟩
theorem rk_3 (c5 : x ≠ r) (f : rk_fr k r x V V') : V' x 3 0 = V x 3 0 := f x 3 0 (fun q => c5 q.1) (fun q => by have := q.2; omega) (fun q => absurd q.2.1 (by decide))
theorem rd_x1 (c5 : x ≠ r) (f : rd_fr r x V V') {z : Int} : V' x 1 z = V x 1 z := f x 1 z (fun q => c5 q.1) (fun q => by have := q.2; omega)
theorem c_setm (h3 : V x 3 0 = k) (k1 : 1 ≤ k) (k12 : k ≤ 12) (h0 : 0 ≤ w) (h8 : w < 8) : f_X10_setMark V x w y = (dv_u V x 1 ((k - 1) * 8 + w) y, 0) := by
  unfold f_X10_setMark
  rw [bq, h3, bq, bq, bq, if_neg (by omega), bq, if_neg (by omega), bq]
/-- where a sum of the clause ends -/
theorem c_65 (cx : rd_cx o tk pl V r x) (h3 : V x 3 0 = k) (k1 : 1 ≤ k) (k12 : k ≤ 12) (j0 : 0 ≤ j) (j2 : j ≤ 2) : f_X5_readSums_65 V r ns j = Sum.inl (dv_u V x 1 ((k - 1) * 8 + (3 + j)) (V x 2 0), r, ns, j + 1) := by
  unfold f_X5_readSums_65
  rw [bq, bq, bq, bq, cx.2.2.1, dv_bn2 (c_setm h3 k1 k12 (by omega) (by omega)), bq]
/-- no sum there -/
theorem c_17n (cx : rd_cx o tk pl V r x) (h3 : V x 3 0 = k) (k1 : 1 ≤ k) (k12 : k ≤ 12) (j0 : 0 ≤ j) (j2 : j ≤ 2) (hn : ns ≤ j) : dv_lp f_X5_readSums_17b (V, r, ns, j) = dv_lp f_X5_readSums_17b (dv_u V x 1 ((k - 1) * 8 + (3 + j)) (V x 2 0), r, ns, j + 1) := by
  refine dv_lp_s ?_
  rw [f_X5_readSums_17e]
  unfold f_X5_readSums_17c f_X5_readSums_56
  rw [if_neg (by omega)]
  by_cases e : j ≤ 0
  · rw [if_pos e, if_pos hn, c_65 cx h3 k1 k12 j0 j2]
  · rw [if_neg e, if_pos hn, if_pos hn, c_65 cx h3 k1 k12 j0 j2]
/-- the first sum -/
theorem c_17s (cx1 : rd_cx o tk pl V1 r x) (h3 : V1 x 3 0 = k) (k1 : 1 ≤ k) (k12 : k ≤ 12) (hn : 0 < ns) (hr : f_X5_readSum 8 V r = (V1, y)) : dv_lp f_X5_readSums_17b (V, r, ns, 0) = dv_lp f_X5_readSums_17b (dv_u V1 x 1 ((k - 1) * 8 + 3) (V1 x 2 0), r, ns, 1) := by
  refine dv_lp_s ?_
  rw [f_X5_readSums_17e]
  unfold f_X5_readSums_17c f_X5_readSums_56
  rw [if_neg (by omega), if_pos (by omega), if_neg (by omega), dv_bn2 hr, c_65 cx1 h3 k1 k12 (by omega) (by omega)]
  rfl
/-- a further sum, behind "at" or "by" -/
theorem c_17m {b : Int} (cx2 : rd_cx o tk pl V2 r x) (h3 : V2 x 3 0 = k) (k1 : 1 ≤ k) (k12 : k ≤ 12) (j0 : 1 ≤ j) (j2 : j ≤ 2) (hn : j < ns) (ht : f_X5_take V r (if j = 1 then 310 else 311) = (V', b)) (hr : f_X5_readSum 8 (if b ≠ 0 then V' else (f_X5_fail V' r).1) r = (V2, y)) : dv_lp f_X5_readSums_17b (V, r, ns, j) = dv_lp f_X5_readSums_17b (dv_u V2 x 1 ((k - 1) * 8 + (3 + j)) (V2 x 2 0), r, ns, j + 1) := by
  have e46 : ∀ q, f_X5_take V r q = (V', b) → f_X5_readSums_46 V r ns j q = Sum.inl (dv_u V2 x 1 ((k - 1) * 8 + (3 + j)) (V2 x 2 0), r, ns, j + 1) := by
    intro q hq
    unfold f_X5_readSums_46 f_X5_readSums_56
    rw [dv_bn2 hq]
    by_cases e : b ≠ 0
    · rw [if_pos e] at hr
      rw [if_pos e, if_neg (by omega), dv_bn2 hr, c_65 cx2 h3 k1 k12 (by omega) j2]
    · rw [if_neg e] at hr
      rw [if_neg e, bq2, if_neg (by omega), dv_bn2 hr, c_65 cx2 h3 k1 k12 (by omega) j2]
  refine dv_lp_s ?_
  rw [f_X5_readSums_17e]
  unfold f_X5_readSums_17c
  rw [if_neg (by omega), if_neg (by omega), if_neg (by omega)]
  by_cases e : j = 1
  · rw [if_neg (fun q => q e), e46 _ (by rw [if_pos e] at ht; exact ht)]
  · rw [if_pos e, e46 _ (by rw [if_neg e] at ht; exact ht)]
theorem c_17e (h : 3 ≤ j) : dv_lp f_X5_readSums_17b (V, r, ns, j) = (V, 0) := by
  refine dv_lp_e ?_
  rw [f_X5_readSums_17e]
  unfold f_X5_readSums_17c
  rw [if_pos h]
end QRC
section QRK
variable {V V' V1 V2 V3 V4 W W' W1 : dV} {r x a i t c v o p N lev h u s k w y ns j : Int} {tk pl cd vl : Int → Int} {D d e : Nat}
/-- both have gone on, inside the clause k -/
def rk_go (pl : Int → Int) (N k : Int) (V W : dV) (r x a : Int) (V' W' : dV) : Prop := rk_fr k r x V V' ∧ re_fr a W W' ∧ V' r 7 0 = V r 7 0 ∧ W' a 21 0 = V' r 8 0 ∧ (V' r 8 0 = -1 → V r 8 0 = -1 ∧ rd_at pl N V' W' r x a ∧ V r 5 0 ≤ V' r 5 0 ∧ V x 2 0 ≤ V' x 2 0 ∧ V' x 2 0 - V x 2 0 ≤ pl (V' r 5 0) - pl (V r 5 0) ∧ ∀ z, z < V x 2 0 → V' x 0 z = V x 0 z)
theorem rk_go_t (f : rk_go pl N k V W r x a V' W') (g : rk_go pl N k V' W' r x a V1 W1) : rk_go pl N k V W r x a V1 W1 := by
  obtain ⟨f1, f2, f3, f4, f5⟩ := f
  obtain ⟨g1, g2, g3, g4, g5⟩ := g
  refine ⟨rk_fr_t f1 g1, re_fr_t f2 g2, g3.trans f3, g4, fun q => ?_⟩
  obtain ⟨m1, m2, m3, m4, m5, m6⟩ := g5 q
  obtain ⟨n1, n2, n3, n4, n5, n6⟩ := f5 m1
  exact ⟨n1, m2, by omega, by omega, by omega, fun z hz => by rw [m6 z (by omega), n6 z hz]⟩
/-- both stand ready, inside the clause k -/
def rk_pre (o : Int) (tk pl cd vl : Int → Int) (N k : Int) (V W : dV) (r x a : Int) : Prop := rd_cx o tk pl V r x ∧ re_cx o cd vl pl W a ∧ V r 7 0 = 0 ∧ W a 21 0 = V r 8 0 ∧ (V r 8 0 = -1 → rd_at pl N V W r x a) ∧ V x 3 0 = k
theorem rk_pre_g (hp : rk_pre o tk pl cd vl N k V W r x a) (f : rk_go pl N k V W r x a V' W') : rk_pre o tk pl cd vl N k V' W' r x a := by
  obtain ⟨h1, h2, h3, h4, h5, h6⟩ := hp
  obtain ⟨f1, f2, f3, f4, f5⟩ := f
  exact ⟨rk_cx_f h1 f1, re_cx_f h2 f2, f3.trans h3, f4, fun q => (f5 q).2.1, (rk_3 h1.2.2.2.2.1 f1).trans h6⟩
theorem rk_go_m (hp : rk_pre o tk pl cd vl N k V W r x a) (h0 : 0 ≤ w) (h8 : w < 8) : rk_go pl N k V W r x a (dv_u V x 1 ((k - 1) * 8 + w) y) W := by
  obtain ⟨h1, h2, h3, h4, h5, h6⟩ := hp
  have c5 := h1.2.2.2.2.1
  have vr : ∀ m z, dv_u V x 1 ((k - 1) * 8 + w) y r m z = V r m z := fun m z => u_b (Ne.symm c5)
  have v2 : dv_u V x 1 ((k - 1) * 8 + w) y x 2 0 = V x 2 0 := u_j (by decide)
  refine ⟨rk_fr_m h0 h8, re_fr_r, vr 7 0, by rw [vr]; exact h4, fun q => ?_⟩
  rw [vr] at q
  obtain ⟨b1, b2, b3, b4, b5, b6⟩ := h5 q
  exact ⟨q, ⟨by rw [vr]; exact b1, by rw [vr]; exact b2, by rw [vr]; exact b3, by rw [vr]; exact b4, by rw [v2]; exact b5, by rw [v2, vr]; exact b6⟩, by rw [vr]; exact Int.le_refl _, by rw [v2]; exact Int.le_refl _, by rw [v2, vr]; omega, fun z hz => u_j (by decide)⟩
theorem rk_sum (ts : rd_ts tk pl cd vl N) (hp : rk_pre o tk pl cd vl N k V W r x a) : ∃ (V' : dV) (y : Int) (W' : dV) (y' : Int), f_X5_readSum 8 V r = (V', y) ∧ f_X12_readSum 8 W a 0 = (W', y') ∧ rk_go pl N k V W r x a V' W' ∧ (∀ z, V' x 1 z = V x 1 z) ∧ (V' r 8 0 = -1 → V r 5 0 < V' r 5 0 ∧ ∃ A, D_sum o cd vl 8 (V r 5 0) (V' r 5 0) A ∧ K_seg (V' x 0) (V x 2 0) (V' x 2 0) A 19) := by
  obtain ⟨h1, h2, h3, h4, h5, h6⟩ := hp
  have c5 := h1.2.2.2.2.1
  obtain ⟨V', y, W', y', e1, e2, o1, o2, o3, o4, o5⟩ := rd_sum (o := o) ts 8 8 (Nat.le_refl 8) V W r x a h1 h2 h3 h4 h5
  refine ⟨V', y, W', y', e1, e2, ⟨rk_fr_d o1, o2, o3, o4, fun q => ?_⟩, fun z => rd_x1 c5 o1, fun q => ?_⟩
  · obtain ⟨g1, g2, g3, g4, g5, g6, -⟩ := o5 q
    exact ⟨g1, g2, by omega, by omega, g5, g6⟩
  · obtain ⟨g1, g2, g3, g4, g5, g6, A, g7, g8⟩ := o5 q
    exact ⟨g3, A, g7, g8⟩
theorem rk_test (ts : rd_ts tk pl cd vl N) (hp : rk_pre o tk pl cd vl N k V W r x a) : ∃ (V' : dV) (y : Int) (W' : dV) (y' : Int), f_X5_readTest 8 V r = (V', y) ∧ f_X12_readTest 8 W a 0 = (W', y') ∧ rk_go pl N k V W r x a V' W' ∧ (∀ z, V' x 1 z = V x 1 z) ∧ (V' r 8 0 = -1 → V r 5 0 < V' r 5 0 ∧ ∃ A, D_test o cd vl 8 (V r 5 0) (V' r 5 0) A ∧ K_seg (V' x 0) (V x 2 0) (V' x 2 0) A 20) := by
  obtain ⟨h1, h2, h3, h4, h5, h6⟩ := hp
  have c5 := h1.2.2.2.2.1
  obtain ⟨V', y, W', y', e1, e2, o1, o2, o3, o4, o5⟩ := rd_test (o := o) ts 8 (Nat.le_refl 8) 8 (Nat.le_refl 8) V W r x a h1 h2 h3 h4 h5
  refine ⟨V', y, W', y', e1, e2, ⟨rk_fr_d o1, o2, o3, o4, fun q => ?_⟩, fun z => rd_x1 c5 o1, fun q => ?_⟩
  · obtain ⟨g1, g2, g3, g4, g5, g6, -⟩ := o5 q
    exact ⟨g1, g2, by omega, by omega, g5, g6⟩
  · obtain ⟨g1, g2, g3, g4, g5, g6, A, g7, g8⟩ := o5 q
    exact ⟨g3, A, g7, g8⟩
/-- one token on -/
theorem rk_on (ts : rd_ts tk pl cd vl N) (hp : rk_pre o tk pl cd vl N k V W r x a) (h8 : V r 8 0 = -1) (ht : tk (V r 5 0) ≠ -1) : rk_go pl N k V W r x a (dv_u V r 5 0 (V r 5 0 + 1)) (dv_u W a 19 0 (W a 19 0 + 1)) := by
  obtain ⟨h1, h2, h3, h4, h5, h6⟩ := hp
  have c5 := h1.2.2.2.2.1
  have at0 := h5 h8
  have hi : rd_in o tk pl cd vl N V W r x a := ⟨ts, h1, h2, h8, h4.trans h8, at0⟩
  obtain ⟨i1, p1, S1, q1⟩ := rd_iN hi ht
  have w1 := @rd_w1 (tk (V r 5 0))
  obtain ⟨b1, b2, b3, b4, b5, b6⟩ := at0
  refine ⟨rk_fr_d (rd_fr_u (by decide)), re_fr_u (by decide), u_j (by decide), by rw [u_j (by decide), u_j (by decide)]; exact h4, fun _ => ⟨h8, ⟨by rw [u_e, u_e, b1], by rw [u_e]; omega, by rw [u_j (by decide), u_j (by decide)]; exact b3, by rw [u_j (by decide)]; exact b4, by rw [u_b c5]; exact b5, by rw [u_b c5, u_e]; omega⟩, by rw [u_e]; omega, by rw [u_b c5]; exact Int.le_refl _, by rw [u_b c5, u_e]; omega, fun z _ => u_b c5⟩⟩
/-- a word that must stand there -/
theorem rk_tok (ts : rd_ts tk pl cd vl N) (hp : rk_pre o tk pl cd vl N k V W r x a) (hw : rd_wp t c) : ∃ (V' : dV) (b : Int) (Vt Wt : dV), f_X5_take V r t = (V', b) ∧ (if b ≠ 0 then V' else (f_X5_fail V' r).1) = Vt ∧ f_X12_must W a c = (Wt, 0) ∧ rk_go pl N k V W r x a Vt Wt ∧ (∀ m z, Vt x m z = V x m z) ∧ (Vt r 8 0 = -1 → cd (V r 5 0) = c ∧ Vt r 5 0 = V r 5 0 + 1) := by
  obtain ⟨h1, h2, h3, h4, h5, h6⟩ := id hp
  have c5 := h1.2.2.2.2.1
  by_cases h8 : V r 8 0 = -1
  · have at0 := h5 h8
    have w8 := h4.trans h8
    obtain ⟨T1, T2⟩ := rd_tT (⟨ts, h1, h2, h8, w8, at0⟩ : rd_in o tk pl cd vl N V W r x a)
    have e := rd_wd T1 hw
    by_cases ht : tk (V r 5 0) = t
    · have hc := e.mp ht
      have n1 : tk (V r 5 0) ≠ -1 := by rw [ht]; unfold rd_wp at hw; omega
      exact ⟨_, 1, _, _, c_take1 h1 h8 ht, if_pos (by decide), m_must1 h2 w8 (by rw [at0.1]; exact hc), rk_on ts hp h8 n1, fun m z => u_b c5, fun _ => ⟨hc, u_e⟩⟩
    · have hc : cd (V r 5 0) ≠ c := fun q => ht (e.mpr q)
      refine ⟨_, 0, _, _, c_take0 h1 (fun _ => ht), if_neg (fun q => q rfl), m_must0 h2 w8 (by rw [at0.1]; exact hc), ?_, ?_, ?_⟩
      · rw [c_fail h1 h8, at0.1]
        refine ⟨rk_fr_d (rd_fr_u (by decide)), re_fr_u (by decide), by show dv_u _ _ _ _ _ _ _ _ = _; exact u_j (by decide), by show _ = dv_u _ _ _ _ _ _ _ _; rw [u_e, u_e], fun q => ?_⟩
        have q' : dv_u V r 8 0 (pl (V r 5 0)) r 8 0 = -1 := q
        rw [u_e] at q'
        omega
      · intro m z
        rw [c_fail h1 h8]
        exact u_b c5
      · intro q
        rw [c_fail h1 h8] at q
        have q' : dv_u V r 8 0 (pl (V r 5 0)) r 8 0 = -1 := q
        rw [u_e] at q'
        omega
  · refine ⟨_, 0, _, _, c_take0 h1 (fun q => absurd q h8), if_neg (fun q => q rfl), m_must_f h2 (by rw [h4]; exact h8), ?_, ?_, ?_⟩
    · rw [c_fail_f h8]
      exact ⟨rk_fr_r, re_fr_r, rfl, h4, fun q => absurd q h8⟩
    · intro m z
      rw [c_fail_f h8]
    · intro q
      rw [c_fail_f h8] at q
      exact absurd q h8
end QRK
section QRI
variable {V V' V1 V2 V3 V4 W W' W1 : dV} {r x a i t c v o p N lev h u s k w y ns j : Int} {tk pl cd vl : Int → Int} {D d e : Nat}
theorem mk_e {k w : Int} : dv_u V x 1 ((k - 1) * 8 + w) y x 1 ((k - 1) * 8 + w) = y := u_e
theorem mk_n {k w w' : Int} (h : w' ≠ w) : dv_u V x 1 ((k - 1) * 8 + w) y x 1 ((k - 1) * 8 + w') = V x 1 ((k - 1) * 8 + w') := u_i (by omega)
theorem c_sums (cx : rd_cx o tk pl V r x) (h3 : V x 3 0 = k) (k1 : 1 ≤ k) (k12 : k ≤ 12) : f_X5_readSums V r ns = dv_lp f_X5_readSums_17b (dv_u V x 1 ((k - 1) * 8 + 2) (V x 2 0), r, ns, 0) := by
  unfold f_X5_readSums
  rw [bq, bq, bq, cx.2.2.1, dv_bn2 (c_setm h3 k1 k12 (by decide) (by decide))]
/-- what the marks of the clause k say: w -/
abbrev mkv (V : dV) (x k w : Int) : Int := V x 1 ((k - 1) * 8 + w)
/-- no sums -/
theorem rs_0 (hp : rk_pre o tk pl cd vl N k V W r x a) (k1 : 1 ≤ k) (k12 : k ≤ 12) : ∃ V', f_X5_readSums V r 0 = (V', 0) ∧ rk_go pl N k V W r x a V' W ∧ (∀ m z, m ≠ 1 → V' x m z = V x m z) ∧ (∀ m z, V' r m z = V r m z) ∧ (∀ w, w ≠ 2 → w ≠ 3 → w ≠ 4 → w ≠ 5 → mkv V' x k w = mkv V x k w) ∧ mkv V' x k 2 = V x 2 0 ∧ mkv V' x k 3 = V x 2 0 ∧ mkv V' x k 4 = V x 2 0 ∧ mkv V' x k 5 = V x 2 0 := by
  have c5 := hp.1.2.2.2.2.1
  have g1 := rk_go_m (w := 2) (y := V x 2 0) hp (by decide) (by decide)
  have p1 := rk_pre_g hp g1
  have g2 := rk_go_m (w := 3 + 0) (y := dv_u V x 1 ((k - 1) * 8 + 2) (V x 2 0) x 2 0) p1 (by decide) (by decide)
  have p2 := rk_pre_g p1 g2
  have e0 := c_sums (ns := 0) hp.1 hp.2.2.2.2.2 k1 k12
  have e1 := c_17n (ns := 0) (j := 0) p1.1 p1.2.2.2.2.2 k1 k12 (by decide) (by decide) (by decide)
  generalize hU1 : dv_u V x 1 ((k - 1) * 8 + 2) (V x 2 0) = U1 at g1 p1 g2 p2 e0 e1
  have a1 : U1 x 2 0 = V x 2 0 := by rw [← hU1]; exact u_j (by decide)
  rw [a1] at e1 g2 p2
  have e2 := c_17n (ns := 0) (j := 0 + 1) p2.1 p2.2.2.2.2.2 k1 k12 (by decide) (by decide) (by decide)
  have g3 := rk_go_m (w := 3 + (0 + 1)) (y := dv_u U1 x 1 ((k - 1) * 8 + (3 + 0)) (V x 2 0) x 2 0) p2 (by decide) (by decide)
  have p3 := rk_pre_g p2 g3
  generalize hU2 : dv_u U1 x 1 ((k - 1) * 8 + (3 + 0)) (V x 2 0) = U2 at g2 p2 e1 e2 g3 p3
  have a2 : U2 x 2 0 = V x 2 0 := by rw [← hU2, u_j (by decide), a1]
  rw [a2] at e2 g3 p3
  have e3 := c_17n (ns := 0) (j := 0 + 1 + 1) p3.1 p3.2.2.2.2.2 k1 k12 (by decide) (by decide) (by decide)
  have g4 := rk_go_m (w := 3 + (0 + 1 + 1)) (y := dv_u U2 x 1 ((k - 1) * 8 + (3 + (0 + 1))) (V x 2 0) x 2 0) p3 (by decide) (by decide)
  generalize hU3 : dv_u U2 x 1 ((k - 1) * 8 + (3 + (0 + 1))) (V x 2 0) = U3 at g3 p3 e2 e3 g4
  have a3 : U3 x 2 0 = V x 2 0 := by rw [← hU3, u_j (by decide), a2]
  rw [a3] at e3 g4
  refine ⟨_, (((e0.trans e1).trans e2).trans e3).trans (c_17e (by decide)), rk_go_t (rk_go_t (rk_go_t g1 g2) g3) g4, fun m z hm => ?_, fun m z => ?_, fun w n2 n3 n4 n5 => ?_, ?_, ?_, ?_, ?_⟩
  · rw [u_j hm, ← hU3, u_j hm, ← hU2, u_j hm, ← hU1, u_j hm]
  · rw [u_b (Ne.symm c5), ← hU3, u_b (Ne.symm c5), ← hU2, u_b (Ne.symm c5), ← hU1, u_b (Ne.symm c5)]
  · show dv_u _ _ _ _ _ _ _ _ = _
    rw [mk_n (by omega), ← hU3, mk_n (by omega), ← hU2, mk_n (by omega), ← hU1, mk_n n2]
  · show dv_u _ _ _ _ _ _ _ _ = _
    rw [mk_n (by omega), ← hU3, mk_n (by omega), ← hU2, mk_n (by omega), ← hU1, mk_e]
  · show dv_u _ _ _ _ _ _ _ _ = _
    rw [mk_n (by omega), ← hU3, mk_n (by omega), ← hU2, show (3 : Int) + 0 = 3 by decide, mk_e]
  · show dv_u _ _ _ _ _ _ _ _ = _
    rw [mk_n (by omega), ← hU3, show (3 : Int) + (0 + 1) = 4 by decide, mk_e]
  · show dv_u _ _ _ _ _ _ _ _ = _
    rw [show (3 : Int) + (0 + 1 + 1) = 5 by decide, mk_e]
end QRI
section QRJ
variable {V V' V1 V2 V3 V4 W W' W1 : dV} {r x a i t c v o p N lev h u s k w y ns j : Int} {tk pl cd vl : Int → Int} {D d e : Nat}
/-- a mark was set -/
def rk_mk (pl : Int → Int) (N k : Int) (V W : dV) (r x a : Int) (V' : dV) (w y : Int) : Prop := rk_go pl N k V W r x a V' W ∧ (∀ m z, m ≠ 1 → V' x m z = V x m z) ∧ (∀ m z, V' r m z = V r m z) ∧ mkv V' x k w = y ∧ ∀ w', w' ≠ w → mkv V' x k w' = mkv V x k w'
theorem rk_mk_i (hp : rk_pre o tk pl cd vl N k V W r x a) (h0 : 0 ≤ w) (h8 : w < 8) : rk_mk pl N k V W r x a (dv_u V x 1 ((k - 1) * 8 + w) y) w y :=
  ⟨rk_go_m hp h0 h8, fun m z hm => u_j hm, fun m z => u_b (Ne.symm hp.1.2.2.2.2.1), mk_e, fun w' hw => mk_n hw⟩
theorem s_17n (hp : rk_pre o tk pl cd vl N k V W r x a) (k1 : 1 ≤ k) (k12 : k ≤ 12) (j0 : 0 ≤ j) (j2 : j ≤ 2) (hn : ns ≤ j) : ∃ V', dv_lp f_X5_readSums_17b (V, r, ns, j) = dv_lp f_X5_readSums_17b (V', r, ns, j + 1) ∧ rk_mk pl N k V W r x a V' (3 + j) (V x 2 0) :=
  ⟨_, c_17n hp.1 hp.2.2.2.2.2 k1 k12 j0 j2 hn, rk_mk_i hp (by omega) (by omega)⟩
theorem s_17s (ts : rd_ts tk pl cd vl N) (hp : rk_pre o tk pl cd vl N k V W r x a) (k1 : 1 ≤ k) (k12 : k ≤ 12) (hn : 0 < ns) : ∃ (V1 : dV) (W1 : dV) (y' : Int) (V' : dV), dv_lp f_X5_readSums_17b (V, r, ns, 0) = dv_lp f_X5_readSums_17b (V', r, ns, 1) ∧ f_X12_readSum 8 W a 0 = (W1, y') ∧ rk_go pl N k V W r x a V1 W1 ∧ (∀ z, V1 x 1 z = V x 1 z) ∧ (V1 r 8 0 = -1 → V r 5 0 < V1 r 5 0 ∧ ∃ A, D_sum o cd vl 8 (V r 5 0) (V1 r 5 0) A ∧ K_seg (V1 x 0) (V x 2 0) (V1 x 2 0) A 19) ∧ rk_mk pl N k V1 W1 r x a V' 3 (V1 x 2 0) := by
  obtain ⟨V1, y, W1, y', e1, e2, g, m, hA⟩ := rk_sum ts hp
  have p1 := rk_pre_g hp g
  exact ⟨V1, W1, y', _, c_17s p1.1 p1.2.2.2.2.2 k1 k12 hn e1, e2, g, m, hA, rk_mk_i p1 (by decide) (by decide)⟩
theorem s_17m (ts : rd_ts tk pl cd vl N) (hp : rk_pre o tk pl cd vl N k V W r x a) (k1 : 1 ≤ k) (k12 : k ≤ 12) (hj : j = 1 ∨ j = 2) (hn : j < ns) : ∃ (V1 : dV) (W1 : dV) (V' : dV), dv_lp f_X5_readSums_17b (V, r, ns, j) = dv_lp f_X5_readSums_17b (V', r, ns, j + 1) ∧ f_X12_readMore W a (21 + j) = (W1, 0) ∧ rk_go pl N k V W r x a V1 W1 ∧ (∀ z, V1 x 1 z = V x 1 z) ∧ (V1 r 8 0 = -1 → cd (V r 5 0) = 21 + j ∧ V r 5 0 < V1 r 5 0 ∧ ∃ A, D_sum o cd vl 8 (V r 5 0 + 1) (V1 r 5 0) A ∧ K_seg (V1 x 0) (V x 2 0) (V1 x 2 0) A 19) ∧ rk_mk pl N k V1 W1 r x a V' (3 + j) (V1 x 2 0) := by
  have hw : rd_wp (if j = 1 then 310 else 311) (21 + j) := by
    rcases hj with rfl | rfl
    · rw [if_pos rfl]; unfold rd_wp; omega
    · rw [if_neg (by decide)]; unfold rd_wp; omega
  obtain ⟨V0, b, Vt, Wt, e0, e1, e2, g0, m0, h0⟩ := rk_tok ts hp hw
  have pt := rk_pre_g hp g0
  obtain ⟨V1, y, W1, y', e3, e4, g, m, hA⟩ := rk_sum ts pt
  have p1 := rk_pre_g pt g
  refine ⟨V1, W1, _, c_17m p1.1 p1.2.2.2.2.2 k1 k12 (by omega) (by omega) hn e0 (by rw [e1]; exact e3), ?_, rk_go_t g0 g, fun z => by rw [m z, m0], fun q => ?_, rk_mk_i p1 (by omega) (by omega)⟩
  · unfold f_X12_readMore
    rw [dv_bn2 e2, dv_bn2 e4]
  · obtain ⟨q8, -⟩ := g.2.2.2.2 q
    obtain ⟨c0, c1⟩ := h0 q8
    obtain ⟨q5, A, hD, hK⟩ := hA q
    rw [c1] at q5 hD
    rw [m0] at hK
    exact ⟨c0, by omega, A, hD, hK⟩
/-- one sum -/
theorem rs_1 (ts : rd_ts tk pl cd vl N) (hp : rk_pre o tk pl cd vl N k V W r x a) (k1 : 1 ≤ k) (k12 : k ≤ 12) : ∃ (V' : dV) (W' : dV) (y' : Int), f_X5_readSums V r 1 = (V', 0) ∧ f_X12_readSum 8 W a 0 = (W', y') ∧ rk_go pl N k V W r x a V' W' ∧ (∀ w, w ≠ 2 → w ≠ 3 → w ≠ 4 → w ≠ 5 → mkv V' x k w = mkv V x k w) ∧ mkv V' x k 2 = V x 2 0 ∧ mkv V' x k 3 = V' x 2 0 ∧ mkv V' x k 4 = V' x 2 0 ∧ mkv V' x k 5 = V' x 2 0 ∧ (V' r 8 0 = -1 → V r 5 0 < V' r 5 0 ∧ ∃ A, D_sum o cd vl 8 (V r 5 0) (V' r 5 0) A ∧ K_seg (V' x 0) (V x 2 0) (V' x 2 0) A 19) := by
  have M1 := rk_mk_i (w := 2) (y := V x 2 0) hp (by decide) (by decide)
  have e0 := c_sums (ns := 1) hp.1 hp.2.2.2.2.2 k1 k12
  generalize dv_u V x 1 ((k - 1) * 8 + 2) (V x 2 0) = U1 at M1 e0
  obtain ⟨g1, x1, r1, w1, n1⟩ := M1
  have p1 := rk_pre_g hp g1
  obtain ⟨V1, W1, y', U2, e1, e2, g2, m2, hA, g3, x3, r3, w3, n3⟩ := s_17s (ns := 1) ts p1 k1 k12 (by decide)
  have p2 := rk_pre_g p1 g2
  have p3 := rk_pre_g p2 g3
  obtain ⟨U3, e4, g4, x4, r4, w4, n4⟩ := s_17n (ns := 1) (j := 1) p3 k1 k12 (by decide) (by decide) (by decide)
  have p4 := rk_pre_g p3 g4
  obtain ⟨U4, e5, g5, x5, r5, w5, n5⟩ := s_17n (ns := 1) (j := 1 + 1) p4 k1 k12 (by decide) (by decide) (by decide)
  have z2 : U4 x 2 0 = V1 x 2 0 := by rw [x5 2 0 (by decide), x4 2 0 (by decide), x3 2 0 (by decide)]
  have z0 : ∀ z, U4 x 0 z = V1 x 0 z := fun z => by rw [x5 0 z (by decide), x4 0 z (by decide), x3 0 z (by decide)]
  refine ⟨U4, W1, y', (((e0.trans e1).trans e4).trans e5).trans (c_17e (by decide)), e2, rk_go_t (rk_go_t (rk_go_t (rk_go_t g1 g2) g3) g4) g5, fun w h2 h3 h4 h5 => ?_, ?_, ?_, ?_, ?_, fun q => ?_⟩
  · rw [n5 w (by omega), n4 w (by omega), n3 w (by omega)]
    exact (m2 _).trans (n1 w (by omega))
  · rw [n5 2 (by decide), n4 2 (by decide), n3 2 (by decide)]
    exact (m2 _).trans w1
  · rw [n5 3 (by decide), n4 3 (by decide), w3, z2]
  · rw [n5 4 (by decide), show (4 : Int) = 3 + 1 by decide, w4, z2, x3 2 0 (by decide)]
  · rw [show (5 : Int) = 3 + (1 + 1) by decide, w5, z2, x4 2 0 (by decide), x3 2 0 (by decide)]
  · have q1 : V1 r 8 0 = -1 := by rw [← r3, ← r4, ← r5]; exact q
    obtain ⟨h5, A, hD, hK⟩ := hA q1
    rw [r1] at h5 hD
    rw [x1 2 0 (by decide)] at hK
    have z5 : U4 r 5 0 = V1 r 5 0 := by rw [r5, r4, r3]
    rw [z5, z2]
    exact ⟨h5, A, hD, K_seg_c hK (fun z _ _ => z0 z)⟩
end QRJ
section QRH
variable {V V' V1 V2 V3 V4 W W' W1 : dV} {r x a i t c v o p N lev h u s k w y ns j : Int} {tk pl cd vl : Int → Int} {D d e : Nat}
/-- three sums -/
theorem rs_3 (ts : rd_ts tk pl cd vl N) (hp : rk_pre o tk pl cd vl N k V W r x a) (k1 : 1 ≤ k) (k12 : k ≤ 12) : ∃ (V' : dV) (W1 : dV) (y1 : Int) (W2 W3 : dV), f_X5_readSums V r 3 = (V', 0) ∧ f_X12_readSum 8 W a 0 = (W1, y1) ∧ f_X12_readMore W1 a 22 = (W2, 0) ∧ f_X12_readMore W2 a 23 = (W3, 0) ∧ rk_go pl N k V W r x a V' W3 ∧ (∀ w, w ≠ 2 → w ≠ 3 → w ≠ 4 → w ≠ 5 → mkv V' x k w = mkv V x k w) ∧ mkv V' x k 2 = V x 2 0 ∧ (V' r 8 0 = -1 → ∃ (j1 j2 : Int) (A0 A1 A2 : dn), mkv V' x k 5 = V' x 2 0 ∧ (V r 5 0 < j1 ∧ j1 < j2 ∧ j2 < V' r 5 0) ∧ D_sum o cd vl 8 (V r 5 0) j1 A0 ∧ cd j1 = 22 ∧ D_sum o cd vl 8 (j1 + 1) j2 A1 ∧ cd j2 = 23 ∧ D_sum o cd vl 8 (j2 + 1) (V' r 5 0) A2 ∧ K_seg (V' x 0) (V x 2 0) (mkv V' x k 3) A0 19 ∧ K_seg (V' x 0) (mkv V' x k 3) (mkv V' x k 4) A1 19 ∧ K_seg (V' x 0) (mkv V' x k 4) (mkv V' x k 5) A2 19) := by
  have M1 := rk_mk_i (w := 2) (y := V x 2 0) hp (by decide) (by decide)
  have e0 := c_sums (ns := 3) hp.1 hp.2.2.2.2.2 k1 k12
  generalize dv_u V x 1 ((k - 1) * 8 + 2) (V x 2 0) = U1 at M1 e0
  obtain ⟨g1, x1, r1, w1, n1⟩ := M1
  have p1 := rk_pre_g hp g1
  obtain ⟨V1, W1, y1, U2, e1, f1, g2, m2, hA, g3, x3, r3, w3, n3⟩ := s_17s (ns := 3) ts p1 k1 k12 (by decide)
  have p3 := rk_pre_g (rk_pre_g p1 g2) g3
  obtain ⟨V2, W2, U3, e4, f2, g4, m4, hB, g5, x5, r5, w5, n5⟩ := s_17m (ns := 3) (j := 1) ts p3 k1 k12 (Or.inl rfl) (by decide)
  have p5 := rk_pre_g (rk_pre_g p3 g4) g5
  obtain ⟨V3, W3, U4, e6, f3, g6, m6, hC, g7, x7, r7, w7, n7⟩ := s_17m (ns := 3) (j := 1 + 1) ts p5 k1 k12 (Or.inr rfl) (by decide)
  have w5 : mkv U3 x k 4 = V2 x 2 0 := w5
  have w7 : mkv U4 x k 5 = V3 x 2 0 := w7
  have n5 : ∀ w', w' ≠ 4 → mkv U3 x k w' = mkv V2 x k w' := n5
  have n7 : ∀ w', w' ≠ 5 → mkv U4 x k w' = mkv V3 x k w' := n7
  have m4 : ∀ w, mkv V2 x k w = mkv U2 x k w := fun w => m4 _
  have m6 : ∀ w, mkv V3 x k w = mkv U3 x k w := fun w => m6 _
  have m2 : ∀ w, mkv V1 x k w = mkv U1 x k w := fun w => m2 _
  refine ⟨U4, W1, y1, W2, W3, (((e0.trans e1).trans e4).trans e6).trans (c_17e (by decide)), f1, f2, f3, rk_go_t (rk_go_t (rk_go_t (rk_go_t (rk_go_t (rk_go_t g1 g2) g3) g4) g5) g6) g7, fun w h2 h3 h4 h5 => ?_, ?_, fun q => ?_⟩
  · rw [n7 w h5, m6, n5 w h4, m4, n3 w h3, m2, n1 w h2]
  · rw [n7 2 (by decide), m6, n5 2 (by decide), m4, n3 2 (by decide), m2, w1]
  · have k3 : mkv U4 x k 3 = V1 x 2 0 := by rw [n7 3 (by decide), m6, n5 3 (by decide), m4, w3]
    have k4 : mkv U4 x k 4 = V2 x 2 0 := by rw [n7 4 (by decide), m6, w5]
    have q7 : V3 r 8 0 = -1 := by rw [← r7]; exact q
    obtain ⟨q6, -, -, -, -, z6⟩ := g6.2.2.2.2 q7
    have q5 : V2 r 8 0 = -1 := by rw [← r5]; exact q6
    obtain ⟨q4, -, -, -, -, z4⟩ := g4.2.2.2.2 q5
    have q3 : V1 r 8 0 = -1 := by rw [← r3]; exact q4
    obtain ⟨a5, A0, D0, K0⟩ := hA q3
    obtain ⟨b0, b5, A1, D1, K1⟩ := hB q5
    obtain ⟨c0, c5, A2, D2, K2⟩ := hC q7
    rw [r1] at a5 D0
    rw [x1 2 0 (by decide)] at K0
    rw [r3] at b0 b5 D1
    rw [x3 2 0 (by decide)] at K1 z4
    rw [r5] at c0 c5 D2
    rw [x5 2 0 (by decide)] at K2 z6
    have y4 : ∀ z, z < V1 x 2 0 → V2 x 0 z = V1 x 0 z := fun z hz => by rw [z4 z hz, x3 0 z (by decide)]
    have y6 : ∀ z, z < V2 x 2 0 → U4 x 0 z = V2 x 0 z := fun z hz => by rw [x7 0 z (by decide), z6 z hz, x5 0 z (by decide)]
    have l1 := K1.1
    rw [k3, k4, w7, x7 2 0 (by decide), r7]
    exact ⟨V1 r 5 0, V2 r 5 0, A0, A1, A2, rfl, ⟨a5, b5, c5⟩, D0, b0, D1, c0, D2, K_seg_c K0 (fun z _ z1 => by rw [y6 z (by omega), y4 z z1]), K_seg_c K1 (fun z _ z1 => y6 z z1), K_seg_c K2 (fun z _ _ => x7 0 z (by decide))⟩
end QRH
section QRT
variable {V V' V1 V2 V3 V4 W W' W1 : dV} {r x a i t c v o p N lev h u s k w y ns j : Int} {tk pl cd vl : Int → Int} {D d e : Nat}
theorem rk_go_n (hp : rk_pre o tk pl cd vl N k V W r x a) : rk_go pl N k V W r x a V W := ⟨rk_fr_r, re_fr_r, rfl, hp.2.2.2.1, fun q => ⟨q, hp.2.2.2.2.1 q, Int.le_refl _, Int.le_refl _, by omega, fun _ _ => rfl⟩⟩
/-- what a clause's test is: marks 6 and 7 -/
def cl_if (o : Int) (cd vl : Int → Int) (m j : Int) (X : Int → Int) (q0 q1 : Int) : Prop := (cd m ≠ 4 ∧ j = m ∧ q0 = q1) ∨ (cd m = 4 ∧ m + 1 < j ∧ ∃ T, D_test o cd vl 8 (m + 1) j T ∧ K_seg X q0 q1 T 20)
def cl_ifs (o : Int) (cd vl : Int → Int) (m j : Int) (X : Int → Int) (q0 q1 s : Int) : Prop := cl_if o cd vl m j X q0 q1 ∧ q1 ≤ s
/-- "if" and its TEST, or neither -/
theorem rc_if (ts : rd_ts tk pl cd vl N) (hp : rk_pre o tk pl cd vl N k V W r x a) (k1 : 1 ≤ k) (k12 : k ≤ 12) : ∃ (V' W' : dV), f_X5_readClause_155 V r = (V', 0) ∧ f_X12_readClause_29 W a = (W', 0) ∧ f_X12_readOrder_77 W a = (W', 0) ∧ rk_go pl N k V W r x a V' W' ∧ (∀ w, w ≠ 6 → w ≠ 7 → mkv V' x k w = mkv V x k w) ∧ (V' r 8 0 = -1 → cl_ifs o cd vl (V r 5 0) (V' r 5 0) (V' x 0) (mkv V' x k 6) (mkv V' x k 7) (V' x 2 0)) := by
  have M1 := rk_mk_i (w := 6) (y := V x 2 0) hp (by decide) (by decide)
  have e6 : f_X10_setMark V x 6 (V x 2 0) = (dv_u V x 1 ((k - 1) * 8 + 6) (V x 2 0), 0) := c_setm hp.2.2.2.2.2 k1 k12 (by decide) (by decide)
  have c3 := hp.1.2.2.1
  generalize dv_u V x 1 ((k - 1) * 8 + 6) (V x 2 0) = U1 at M1 e6
  obtain ⟨g1, x1, r1, w1, n1⟩ := M1
  have p1 := rk_pre_g hp g1
  -- the end of the clause
  have E185 : ∀ {V2 W2 : dV}, rk_pre o tk pl cd vl N k V2 W2 r x a → ∃ V3, f_X5_readClause_185 V2 r = (V3, 0) ∧ rk_mk pl N k V2 W2 r x a V3 7 (V2 x 2 0) := by
    intro V2 W2 q
    refine ⟨_, ?_, rk_mk_i (w := 7) (y := V2 x 2 0) q (by decide) (by decide)⟩
    unfold f_X5_readClause_185
    rw [bq, bq, bq, q.1.2.2.1, dv_bn2 (c_setm q.2.2.2.2.2 k1 k12 (by decide) (by decide))]
  by_cases hif : V r 8 0 = -1 ∧ tk (V r 5 0) = 308
  · obtain ⟨h8, ht⟩ := hif
    have at0 := hp.2.2.2.2.1 h8
    have w8 := hp.2.2.2.1.trans h8
    obtain ⟨T1, T2⟩ := rd_tT (⟨ts, hp.1, hp.2.1, h8, w8, at0⟩ : rd_in o tk pl cd vl N V W r x a)
    have hc : cd (V r 5 0) = 4 := (rd_wd T1 (b := 308) (e := 4) (by unfold rd_wp; omega)).mp ht
    have t1 := c_take1 (t := 308) p1.1 (by rw [r1]; exact h8) (by rw [r1]; exact ht)
    have m1 := m_take1 (c := 4) p1.2.1 w8 (by rw [at0.1]; exact hc)
    have g2 := rk_on ts p1 (by rw [r1]; exact h8) (by rw [r1]; omega)
    have z5 : dv_u U1 r 5 0 (U1 r 5 0 + 1) r 5 0 = V r 5 0 + 1 := by rw [u_e, r1]
    have zx : ∀ m z, dv_u U1 r 5 0 (U1 r 5 0 + 1) x m z = U1 x m z := fun m z => u_b hp.1.2.2.2.2.1
    generalize dv_u U1 r 5 0 (U1 r 5 0 + 1) = V2 at t1 g2 z5 zx
    generalize dv_u W a 19 0 (W a 19 0 + 1) = W2 at m1 g2
    have p2 := rk_pre_g p1 g2
    obtain ⟨V3, y, W3, y', e3, f3, g3, m3, hA⟩ := rk_test ts p2
    have p3 := rk_pre_g p2 g3
    obtain ⟨V4, e4, g4, x4, r4, w4, n4⟩ := E185 p3
    have m3 : ∀ w, mkv V3 x k w = mkv V2 x k w := fun w => m3 _
    have zk : ∀ w, mkv V2 x k w = mkv U1 x k w := fun w => zx 1 _
    refine ⟨V4, W3, ?_, ?_, ?_, rk_go_t (rk_go_t (rk_go_t g1 g2) g3) g4, fun w h6 h7 => by rw [n4 w h7, m3, zk, n1 w h6], fun q => ?_⟩
    · unfold f_X5_readClause_155
      rw [bq, bq, bq, c3, dv_bn2 e6, dv_bn2 t1, if_neg (by decide), dv_bn2 e3, e4]
    · unfold f_X12_readClause_29
      rw [dv_bn2 m1, if_neg (by decide), dv_bn2 f3]
    · unfold f_X12_readOrder_77
      rw [dv_bn2 m1, if_neg (by decide), dv_bn2 f3]
    · have q3 : V3 r 8 0 = -1 := by rw [← r4]; exact q
      obtain ⟨l, A, hD, hK⟩ := hA q3
      rw [z5] at l hD
      rw [zx, x1 2 0 (by decide)] at hK
      rw [r4, w4, n4 6 (by decide), m3, zk, w1]
      exact ⟨Or.inr ⟨hc, l, A, hD, K_seg_c hK (fun z _ _ => x4 0 z (by decide))⟩, by rw [x4 2 0 (by decide)]; exact Int.le_refl _⟩
  · have t1 := c_take0 (t := 308) p1.1 (fun q z => hif ⟨by rw [← r1]; exact q, by rw [← r1]; exact z⟩)
    have m1 : f_X12_takes0 W a 4 = (W, 0) := by
      refine m_take0 hp.2.1 (fun q => ?_)
      have h8 : V r 8 0 = -1 := hp.2.2.2.1.symm.trans q
      have at0 := hp.2.2.2.2.1 h8
      obtain ⟨T1, T2⟩ := rd_tT (⟨ts, hp.1, hp.2.1, h8, q, at0⟩ : rd_in o tk pl cd vl N V W r x a)
      rw [at0.1]
      exact fun z => hif ⟨h8, (rd_wd T1 (b := 308) (e := 4) (by unfold rd_wp; omega)).mpr z⟩
    obtain ⟨V4, e4, g4, x4, r4, w4, n4⟩ := E185 p1
    refine ⟨V4, W, ?_, ?_, ?_, rk_go_t g1 g4, fun w h6 h7 => by rw [n4 w h7, n1 w h6], fun q => ?_⟩
    · unfold f_X5_readClause_155
      rw [bq, bq, bq, c3, dv_bn2 e6, dv_bn2 t1, if_pos rfl, e4]
    · unfold f_X12_readClause_29
      rw [dv_bn2 m1, if_pos rfl]
    · unfold f_X12_readOrder_77
      rw [dv_bn2 m1, if_pos rfl]
    · have h8 : V r 8 0 = -1 := by rw [← r1, ← r4]; exact q
      have at0 := hp.2.2.2.2.1 h8
      obtain ⟨T1, T2⟩ := rd_tT (⟨ts, hp.1, hp.2.1, h8, hp.2.2.2.1.trans h8, at0⟩ : rd_in o tk pl cd vl N V W r x a)
      refine ⟨Or.inl ⟨fun z => hif ⟨h8, (rd_wd T1 (b := 308) (e := 4) (by unfold rd_wp; omega)).mpr z⟩, by rw [r4, r1], ?_⟩, ?_⟩
      · rw [w4, n4 6 (by decide), w1, x1 2 0 (by decide)]
      · rw [w4, x4 2 0 (by decide)]; exact Int.le_refl _
end QRT
