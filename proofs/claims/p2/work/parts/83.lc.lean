section LXT
variable {G : th_G} {Γ Γ1 : th_Ga} {H H1 : Heap} {L : List (Nat × Nat)} {ax am n : Nat} {f : Nat → Value}
def lx_T (G : th_G) (Γ : th_Ga) (H : Heap) : Prop := ∀ q r o : Nat, Γ q = (r, o) → r < 46 → (th_ro r).isSome = true → th_ini G H r q
theorem lx_p2 (hI : th_I G Γ H) {a r o k j r2 b : Nat} {fs : List th_sp} {hi : Int} (ha : Γ a = (r, o)) (hr : th_ro r = some (.inl (k, fs))) (hq : fs[j]? = some (2, (r2 : Int), hi)) (hp : th_sl H a (G.1.2 k j) = .ref b) : Γ b = (r2, 0) := by
  obtain ⟨b', e1, e2⟩ := lw_fr hI ha hr hq
  cases hp.symm.trans e1
  exact e2
theorem lx_p4 (hI : th_I G Γ H) {a r o k j r2 b : Nat} {fs : List th_sp} {hi : Int} (ha : Γ a = (r, o)) (hr : th_ro r = some (.inl (k, fs))) (hq : fs[j]? = some (4, (r2 : Int), hi)) (hp : th_sl H a (G.1.2 k j) = .ref b) : Γ b = (r2, a) := by
  obtain ⟨b', e1, e2⟩ := th_fo hI ha hr hq
  cases hp.symm.trans e1
  exact e2
theorem lx_pe (hI : th_I G Γ H) {b r o t n1 n2 i r2 c : Nat} {es : Nat → th_sp} {lo : Int} (hb : Γ b = (r, o)) (hr : th_ro r = some (.inr (t, n1, n2, es))) (hi : i < n1) (he : es i = (2, (r2 : Int), lo)) (hp : th_sl H b i = .ref c) : Γ c = (r2, 0) := by
  obtain ⟨-, n, h1, h2, h3, h4⟩ := hI b r o _ hb hr
  have h5 := h4 i (by omega)
  rw [he, hp] at h5
  obtain ⟨b', e1, e2⟩ := h5
  cases e1
  simpa using e2
theorem lx_fld (hT : lx_T G Γ H) {a r k j : Nat} {fs : List th_sp} {q : th_sp} {x : Int32} (ha : Γ a = (r, 0)) (h46 : r < 46) (hs : (th_ro r).isSome = true) (hr : th_ro r = some (.inl (k, fs))) (hk : (th_iv r).1 = k) (hq : fs[j]? = some q) (h4 : q.1 ≠ 4) (hm : (j, x) ∈ (th_iv r).2) : dv G Γ H (a : Int) j 0 = x.toInt := by
  have e := (hT a r 0 ha h46 hs).1 j x hm
  rw [hk] at e
  exact dv_getI ha hr hq e h4
theorem lx_row (hI : th_I G Γ H) (hU : dv_U Γ) (hT : lx_T G Γ H) {a r k j r2 n : Nat} {fs : List th_sp} {g : Nat → Int32} {hi : Int} (ha : Γ a = (r, 0)) (hr : th_ro r = some (.inl (k, fs))) (hq : fs[j]? = some (4, (r2 : Int), hi)) (ho : dv_own r2 = some (r, j)) (h46 : r2 < 46) (hs : (th_ro r2).isSome = true) (hf : th_ir r2 = some (n, g)) {z : Int} (z0 : 0 ≤ z) (z1 : z < n) : dv G Γ H (a : Int) j z = (g z.toNat).toInt := by
  obtain ⟨b, e1, e2⟩ := th_fo hI ha hr hq
  exact dv_aldI hI hU e2 ho ((hT b r2 a e2 h46 hs).2.1 n g hf z.toNat (by omega)) z0
theorem lx_out {b i N : Nat} {c : ClassId} {g : Nat → Value} (e : H[b]? = some (arrV c N g)) (h : N ≤ i) : th_sl H b i = .null := by
  have e2 : (arrV c N g).slots[i]? = none := Array.getElem?_eq_none (by rw [arrV_size]; exact h)
  unfold th_sl
  rw [e]
  show ((arrV c N g).slots[i]?).getD .null = .null
  rw [e2]
  rfl
theorem lx_mf (hM : th_M0 G H am n f) (ham : Γ am = (46, 0)) {j : Nat} {q : th_sp} {x : Int32} (hj : j < 57) (hq : th_f46[j]? = some q) (h4 : q.1 ≠ 4) (hv : mo_V0 n j = .int x) : dv G Γ H (am : Int) j 0 = x.toInt := dv_getI ham ro_46 hq ((hM.1 j hj).trans hv) h4
theorem lx_mr (hM : th_M0 G H am n f) (ham : Γ am = (46, 0)) {j i t N : Nat} {g : Nat → Value} {q : th_sp} (hj : j < 57) (hq : th_f46[j]? = some q) (h4 : q.1 = 4) (hv : mo_V0 n j = .ref (n + i)) (hx : (mq_4 f)[i]? = some (t, N, g)) {z : Int} (z0 : 0 ≤ z) : dv G Γ H (am : Int) j z = if z < N then dv_iv (g z.toNat) else -1 := by
  rw [dv_at (A := (am : Int)) (r := 46) (o := 0) (by omega) z0 (by rw [Int.toNat_natCast]; exact ham) ro_46 hq, if_pos h4, Int.toNat_natCast, (hM.1 j hj).trans hv]
  show dv_iv (th_sl H (n + i) z.toNat) = _
  have e := hM.2 i _ hx
  dsimp only at e
  by_cases w : z < N
  · rw [if_pos w, th_sl_at e (arrV_read _ _ (by omega))]
  · rw [if_neg w, lx_out e (by omega)]; rfl
theorem lx_wt : WT = th_wl := by decide
theorem lx_wd (hI : th_I G Γ H) (hU : dv_U Γ) (ham : Γ am = (46, 0)) {z : Int} (z0 : 0 ≤ z) (z1 : z < 127) : dv G Γ H (am : Int) 7 z = WT.getD z.toNat 0 := by
  obtain ⟨b, e1, e2⟩ := th_fo hI ham ro_46 (j := 7) (r2 := 52) rfl
  obtain ⟨-, n, h1, h2, h3, h4⟩ := hI b 52 am _ e2 ro_52
  obtain ⟨x, x1, x2, x3⟩ := h4 z.toNat (by omega)
  rw [dv_aldI hI hU e2 ow_52 x1 z0, lx_wt]
  have e3 : th_esw z.toNat = (0, th_wl.getD z.toNat 0, th_wl.getD z.toNat 0) := rfl
  rw [e3] at x2 x3
  exact Int.le_antisymm x3 x2
theorem lx_kp {z : Int} (z0 : 0 ≤ z) : dv_iv (mk_4 z.toNat) = if z = 65 then 1 else if z = 67 then 8 else if z = 68 then 8 else if z = 72 then -1 else 0 := by
  unfold mk_4 updV
  by_cases h1 : z = 72
  · subst h1; rfl
  rw [if_neg (show ¬ z.toNat = 72 by omega)]
  by_cases h2 : z = 68
  · subst h2; rfl
  rw [if_neg (show ¬ z.toNat = 68 by omega)]
  by_cases h3 : z = 67
  · subst h3; rfl
  rw [if_neg (show ¬ z.toNat = 67 by omega)]
  by_cases h4 : z = 65
  · subst h4; rfl
  rw [if_neg (show ¬ z.toNat = 65 by omega), if_neg h4, if_neg h3, if_neg h2, if_neg h1]
  rfl
/-- a stand's floor, its laws' texts -/
theorem lx_st (hI : th_I G Γ H) (hT : lx_T G Γ H) {s : Nat} (hs : Γ s = (32, 0)) : (Γ (s + 1) = (3, 0) ∧ th_sl H s (G.1.2 8 0) = .ref (s + 1)) ∧ (Γ (s + 9) = (33, s) ∧ th_sl H s (G.1.2 8 1) = .ref (s + 9)) ∧ (Γ (s + 13) = (39, 0) ∧ th_sl H (s + 9) 0 = .ref (s + 13)) ∧ (Γ (s + 16) = (39, 0) ∧ th_sl H (s + 9) 1 = .ref (s + 16)) ∧ (Γ (s + 19) = (39, 0) ∧ th_sl H (s + 9) 2 = .ref (s + 19)) ∧ (Γ (s + 22) = (39, 0) ∧ th_sl H (s + 9) 3 = .ref (s + 22)) ∧ (Γ (s + 25) = (39, 0) ∧ th_sl H (s + 9) 4 = .ref (s + 25)) ∧ (Γ (s + 28) = (39, 0) ∧ th_sl H (s + 9) 5 = .ref (s + 28)) := by
  have p := (hT s 32 0 hs (by decide) rfl).2.2.1
  have p0 : th_sl H s (G.1.2 8 0) = .ref (s + 1) := p 0 1 (by decide)
  have p1 : th_sl H s (G.1.2 8 1) = .ref (s + 9) := p 1 9 (by decide)
  have g1 : Γ (s + 9) = (33, s) := lx_p4 hI hs ro_32 (j := 1) (r2 := 33) rfl p1
  have q := (hT (s + 9) 33 s g1 (by decide) rfl).2.2.2
  have q0 : th_sl H (s + 9) 0 = .ref (s + 13) := (q 0 4 (by decide)).trans (congrArg Value.ref (show s + 9 + 4 = s + 13 by omega))
  have q1 : th_sl H (s + 9) 1 = .ref (s + 16) := (q 1 7 (by decide)).trans (congrArg Value.ref (show s + 9 + 7 = s + 16 by omega))
  have q2 : th_sl H (s + 9) 2 = .ref (s + 19) := (q 2 10 (by decide)).trans (congrArg Value.ref (show s + 9 + 10 = s + 19 by omega))
  have q3 : th_sl H (s + 9) 3 = .ref (s + 22) := (q 3 13 (by decide)).trans (congrArg Value.ref (show s + 9 + 13 = s + 22 by omega))
  have q4 : th_sl H (s + 9) 4 = .ref (s + 25) := (q 4 16 (by decide)).trans (congrArg Value.ref (show s + 9 + 16 = s + 25 by omega))
  have q5 : th_sl H (s + 9) 5 = .ref (s + 28) := (q 5 19 (by decide)).trans (congrArg Value.ref (show s + 9 + 19 = s + 28 by omega))
  exact ⟨⟨lx_p2 hI hs ro_32 (j := 0) (r2 := 3) rfl p0, p0⟩, ⟨g1, p1⟩, ⟨lx_pe hI g1 ro_33 (i := 0) (r2 := 39) (by decide) rfl q0, q0⟩, ⟨lx_pe hI g1 ro_33 (i := 1) (r2 := 39) (by decide) rfl q1, q1⟩, ⟨lx_pe hI g1 ro_33 (i := 2) (r2 := 39) (by decide) rfl q2, q2⟩, ⟨lx_pe hI g1 ro_33 (i := 3) (r2 := 39) (by decide) rfl q3, q3⟩, ⟨lx_pe hI g1 ro_33 (i := 4) (r2 := 39) (by decide) rfl q4, q4⟩, ⟨lx_pe hI g1 ro_33 (i := 5) (r2 := 39) (by decide) rfl q5, q5⟩⟩
set_option maxHeartbeats 4000000 in
theorem lx_tree (hI : th_I G Γ H) (hU : dv_U Γ) (hT : lx_T G Γ H) (hax : Γ ax = (42, 0)) : lw_AR Γ ax ∧ G_r (lw_A ax) (dv G Γ H) := by
  have p := (hT ax 42 0 hax (by decide) rfl).2.2.1
  have p0 : th_sl H ax (G.1.2 11 0) = .ref (ax + 1) := p 0 1 (by decide)
  have h1 : Γ (ax + 1) = (32, 0) := lx_p2 hI hax ro_42 (j := 0) (r2 := 32) rfl p0
  have p1 : th_sl H ax (G.1.2 11 1) = .ref (ax + 32) := p 1 32 (by decide)
  have h32 : Γ (ax + 32) = (43, ax) := lx_p4 hI hax ro_42 (j := 1) (r2 := 43) rfl p1
  have p3 : th_sl H ax (G.1.2 11 3) = .ref (ax + 34) := p 3 34 (by decide)
  have h34 : Γ (ax + 34) = (3, 0) := lx_p2 hI hax ro_42 (j := 3) (r2 := 3) rfl p3
  have p4 : th_sl H ax (G.1.2 11 4) = .ref (ax + 42) := p 4 42 (by decide)
  have h42 : Γ (ax + 42) = (3, 0) := lx_p2 hI hax ro_42 (j := 4) (r2 := 3) rfl p4
  have p5 : th_sl H ax (G.1.2 11 5) = .ref (ax + 50) := p 5 50 (by decide)
  have h50 : Γ (ax + 50) = (37, 0) := lx_p2 hI hax ro_42 (j := 5) (r2 := 37) rfl p5
  have p6 : th_sl H ax (G.1.2 11 6) = .ref (ax + 52) := p 6 52 (by decide)
  have h52 : Γ (ax + 52) = (20, 0) := lx_p2 hI hax ro_42 (j := 6) (r2 := 20) rfl p6
  have p7 : th_sl H ax (G.1.2 11 7) = .ref (ax + 55) := p 7 55 (by decide)
  have h55 : Γ (ax + 55) = (39, 0) := lx_p2 hI hax ro_42 (j := 7) (r2 := 39) rfl p7
  have p8 : th_sl H ax (G.1.2 11 8) = .ref (ax + 58) := p 8 58 (by decide)
  have h58 : Γ (ax + 58) = (23, 0) := lx_p2 hI hax ro_42 (j := 8) (r2 := 23) rfl p8
  have p9 : th_sl H ax (G.1.2 11 9) = .ref (ax + 62) := p 9 62 (by decide)
  have h62 : Γ (ax + 62) = (11, 0) := lx_p2 hI hax ro_42 (j := 9) (r2 := 11) rfl p9
  have p10 : th_sl H ax (G.1.2 11 10) = .ref (ax + 67) := p 10 67 (by decide)
  have h67 : Γ (ax + 67) = (17, 0) := lx_p2 hI hax ro_42 (j := 10) (r2 := 17) rfl p10
  have qi := (hT (ax + 32) 43 ax h32 (by decide) rfl).2.2.2
  have i0 : th_sl H (ax + 32) 0 = .ref (ax + 91) := (qi 0 59 (by decide)).trans (congrArg Value.ref (show ax + 32 + 59 = ax + 91 by omega))
  have h91 : Γ (ax + 91) = (32, 0) := lx_pe hI h32 ro_43 (i := 0) (r2 := 32) (by decide) rfl i0
  have i1 : th_sl H (ax + 32) 1 = .ref (ax + 122) := (qi 1 90 (by decide)).trans (congrArg Value.ref (show ax + 32 + 90 = ax + 122 by omega))
  have h122 : Γ (ax + 122) = (32, 0) := lx_pe hI h32 ro_43 (i := 1) (r2 := 32) (by decide) rfl i1
  obtain ⟨⟨f1, e1⟩, ⟨l1, m1⟩, ⟨t1_0, u1_0⟩, ⟨t1_1, u1_1⟩, ⟨t1_2, u1_2⟩, ⟨t1_3, u1_3⟩, ⟨t1_4, u1_4⟩, ⟨t1_5, u1_5⟩⟩ := lx_st hI hT h1
  obtain ⟨⟨f91, e91⟩, ⟨l91, m91⟩, ⟨t91_0, u91_0⟩, ⟨t91_1, u91_1⟩, ⟨t91_2, u91_2⟩, ⟨t91_3, u91_3⟩, ⟨t91_4, u91_4⟩, ⟨t91_5, u91_5⟩⟩ := lx_st hI hT h91
  obtain ⟨⟨f122, e122⟩, ⟨l122, m122⟩, ⟨t122_0, u122_0⟩, ⟨t122_1, u122_1⟩, ⟨t122_2, u122_2⟩, ⟨t122_3, u122_3⟩, ⟨t122_4, u122_4⟩, ⟨t122_5, u122_5⟩⟩ := lx_st hI hT h122
  have pj : th_sl H (ax + 62) (G.1.2 2 0) = .ref (ax + 62 + 1) := (hT _ 11 0 h62 (by decide) rfl).2.2.1 0 1 (by decide)
  have hj : Γ (ax + 62 + 1) = (23, 0) := lx_p2 hI h62 ro_11 (j := 0) (r2 := 23) rfl pj
  have pp : th_sl H (ax + 67) (G.1.2 4 2) = .ref (ax + 67 + 3) := (hT _ 17 0 h67 (by decide) rfl).2.2.1 2 3 (by decide)
  have hp : Γ (ax + 67 + 3) = (3, 0) := lx_p2 hI h67 ro_17 (j := 2) (r2 := 3) rfl pp
  refine ⟨fun i hi hs => ?_, ?_⟩
  · match i, hi, hs with
    | 0, _, _ => exact hax
    | 1, _, _ => exact h1
    | 2, _, _ => exact h91
    | 3, _, _ => exact h122
    | 4, _, _ => exact f1
    | 5, _, _ => exact f91
    | 6, _, _ => exact f122
    | 7, _, _ => exact h34
    | 8, _, _ => exact h42
    | 9, _, _ => exact h50
    | 10, _, _ => exact h52
    | 11, _, _ => exact h55
    | 12, _, _ => exact h58
    | 13, _, _ => exact h62
    | 14, _, _ => exact hj
    | 15, _, _ => exact h67
    | 16, _, _ => exact hp
    | 17, _, w => cases w
    | 18, _, w => cases w
    | 19, _, w => cases w
    | 20, _, _ => exact t1_0
    | 21, _, _ => exact t1_1
    | 22, _, _ => exact t1_2
    | 23, _, _ => exact t1_3
    | 24, _, _ => exact t1_4
    | 25, _, _ => exact t1_5
    | 26, _, _ => exact t91_0
    | 27, _, _ => exact t91_1
    | 28, _, _ => exact t91_2
    | 29, _, _ => exact t91_3
    | 30, _, _ => exact t91_4
    | 31, _, _ => exact t91_5
    | 32, _, _ => exact t122_0
    | 33, _, _ => exact t122_1
    | 34, _, _ => exact t122_2
    | 35, _, _ => exact t122_3
    | 36, _, _ => exact t122_4
    | 37, _, _ => exact t122_5
    | n + 38, w, _ => exact absurd w (by omega)
  · refine ⟨⟨?_, ?_, ?_, ?_, ?_, ?_, ?_, ?_, ?_, ?_, ?_⟩, ?_, ?_, fun k hk => ?_⟩
    · show dv G Γ H (ax : Int) 0 0 = ((ax + 1 : Nat) : Int); exact dv_getR (j := 0) hax ro_42 rfl p0 (by decide)
    · show dv G Γ H (ax : Int) 1 ((0 : Nat) : Int) = ((ax + 91 : Nat) : Int); exact dv_aldR hI hU h32 ow_43 i0 (by decide)
    · show dv G Γ H (ax : Int) 1 ((1 : Nat) : Int) = ((ax + 122 : Nat) : Int); exact dv_aldR hI hU h32 ow_43 i1 (by decide)
    · show dv G Γ H (ax : Int) 3 0 = ((ax + 34 : Nat) : Int); exact dv_getR (j := 3) hax ro_42 rfl p3 (by decide)
    · show dv G Γ H (ax : Int) 4 0 = ((ax + 42 : Nat) : Int); exact dv_getR (j := 4) hax ro_42 rfl p4 (by decide)
    · show dv G Γ H (ax : Int) 5 0 = ((ax + 50 : Nat) : Int); exact dv_getR (j := 5) hax ro_42 rfl p5 (by decide)
    · show dv G Γ H (ax : Int) 6 0 = ((ax + 52 : Nat) : Int); exact dv_getR (j := 6) hax ro_42 rfl p6 (by decide)
    · show dv G Γ H (ax : Int) 7 0 = ((ax + 55 : Nat) : Int); exact dv_getR (j := 7) hax ro_42 rfl p7 (by decide)
    · show dv G Γ H (ax : Int) 8 0 = ((ax + 58 : Nat) : Int); exact dv_getR (j := 8) hax ro_42 rfl p8 (by decide)
    · show dv G Γ H (ax : Int) 9 0 = ((ax + 62 : Nat) : Int); exact dv_getR (j := 9) hax ro_42 rfl p9 (by decide)
    · show dv G Γ H (ax : Int) 10 0 = ((ax + 67 : Nat) : Int); exact dv_getR (j := 10) hax ro_42 rfl p10 (by decide)
    · show dv G Γ H ((ax + 62 : Nat) : Int) 0 0 = ((ax + 63 : Nat) : Int); exact dv_getR (j := 0) h62 ro_11 rfl pj (by decide)
    · show dv G Γ H ((ax + 67 : Nat) : Int) 2 0 = ((ax + 70 : Nat) : Int); exact dv_getR (j := 2) h67 ro_17 rfl pp (by decide)
    · match k, hk with
      | 0, _ =>
        refine ⟨?_, fun t ht => ?_⟩
        · show dv G Γ H ((ax + 1 : Nat) : Int) 0 0 = ((ax + 2 : Nat) : Int); exact dv_getR (j := 0) h1 ro_32 rfl e1 (by decide)
        · match t, ht with
          | 0, _ => show dv G Γ H ((ax + 1 : Nat) : Int) 1 ((0 : Nat) : Int) = ((ax + 14 : Nat) : Int); exact dv_aldR hI hU l1 ow_33 u1_0 (by decide)
          | 1, _ => show dv G Γ H ((ax + 1 : Nat) : Int) 1 ((1 : Nat) : Int) = ((ax + 17 : Nat) : Int); exact dv_aldR hI hU l1 ow_33 u1_1 (by decide)
          | 2, _ => show dv G Γ H ((ax + 1 : Nat) : Int) 1 ((2 : Nat) : Int) = ((ax + 20 : Nat) : Int); exact dv_aldR hI hU l1 ow_33 u1_2 (by decide)
          | 3, _ => show dv G Γ H ((ax + 1 : Nat) : Int) 1 ((3 : Nat) : Int) = ((ax + 23 : Nat) : Int); exact dv_aldR hI hU l1 ow_33 u1_3 (by decide)
          | 4, _ => show dv G Γ H ((ax + 1 : Nat) : Int) 1 ((4 : Nat) : Int) = ((ax + 26 : Nat) : Int); exact dv_aldR hI hU l1 ow_33 u1_4 (by decide)
          | 5, _ => show dv G Γ H ((ax + 1 : Nat) : Int) 1 ((5 : Nat) : Int) = ((ax + 29 : Nat) : Int); exact dv_aldR hI hU l1 ow_33 u1_5 (by decide)
          | n + 6, w => exact absurd w (by omega)
      | 1, _ =>
        refine ⟨?_, fun t ht => ?_⟩
        · show dv G Γ H ((ax + 91 : Nat) : Int) 0 0 = ((ax + 92 : Nat) : Int); exact dv_getR (j := 0) h91 ro_32 rfl e91 (by decide)
        · match t, ht with
          | 0, _ => show dv G Γ H ((ax + 91 : Nat) : Int) 1 ((0 : Nat) : Int) = ((ax + 104 : Nat) : Int); exact dv_aldR hI hU l91 ow_33 u91_0 (by decide)
          | 1, _ => show dv G Γ H ((ax + 91 : Nat) : Int) 1 ((1 : Nat) : Int) = ((ax + 107 : Nat) : Int); exact dv_aldR hI hU l91 ow_33 u91_1 (by decide)
          | 2, _ => show dv G Γ H ((ax + 91 : Nat) : Int) 1 ((2 : Nat) : Int) = ((ax + 110 : Nat) : Int); exact dv_aldR hI hU l91 ow_33 u91_2 (by decide)
          | 3, _ => show dv G Γ H ((ax + 91 : Nat) : Int) 1 ((3 : Nat) : Int) = ((ax + 113 : Nat) : Int); exact dv_aldR hI hU l91 ow_33 u91_3 (by decide)
          | 4, _ => show dv G Γ H ((ax + 91 : Nat) : Int) 1 ((4 : Nat) : Int) = ((ax + 116 : Nat) : Int); exact dv_aldR hI hU l91 ow_33 u91_4 (by decide)
          | 5, _ => show dv G Γ H ((ax + 91 : Nat) : Int) 1 ((5 : Nat) : Int) = ((ax + 119 : Nat) : Int); exact dv_aldR hI hU l91 ow_33 u91_5 (by decide)
          | n + 6, w => exact absurd w (by omega)
      | 2, _ =>
        refine ⟨?_, fun t ht => ?_⟩
        · show dv G Γ H ((ax + 122 : Nat) : Int) 0 0 = ((ax + 123 : Nat) : Int); exact dv_getR (j := 0) h122 ro_32 rfl e122 (by decide)
        · match t, ht with
          | 0, _ => show dv G Γ H ((ax + 122 : Nat) : Int) 1 ((0 : Nat) : Int) = ((ax + 135 : Nat) : Int); exact dv_aldR hI hU l122 ow_33 u122_0 (by decide)
          | 1, _ => show dv G Γ H ((ax + 122 : Nat) : Int) 1 ((1 : Nat) : Int) = ((ax + 138 : Nat) : Int); exact dv_aldR hI hU l122 ow_33 u122_1 (by decide)
          | 2, _ => show dv G Γ H ((ax + 122 : Nat) : Int) 1 ((2 : Nat) : Int) = ((ax + 141 : Nat) : Int); exact dv_aldR hI hU l122 ow_33 u122_2 (by decide)
          | 3, _ => show dv G Γ H ((ax + 122 : Nat) : Int) 1 ((3 : Nat) : Int) = ((ax + 144 : Nat) : Int); exact dv_aldR hI hU l122 ow_33 u122_3 (by decide)
          | 4, _ => show dv G Γ H ((ax + 122 : Nat) : Int) 1 ((4 : Nat) : Int) = ((ax + 147 : Nat) : Int); exact dv_aldR hI hU l122 ow_33 u122_4 (by decide)
          | 5, _ => show dv G Γ H ((ax + 122 : Nat) : Int) 1 ((5 : Nat) : Int) = ((ax + 150 : Nat) : Int); exact dv_aldR hI hU l122 ow_33 u122_5 (by decide)
          | n + 6, w => exact absurd w (by omega)
      | n + 3, w => exact absurd w (by omega)
/-- all is new: class and reference stand alike -/
theorem lx_RR (hI : th_I G Γ H) (hU : dv_U Γ) (hT : lx_T G Γ H) (hax : Γ ax = (42, 0)) (ham : Γ am = (46, 0)) (hM : th_M0 G H am n f) : RR (lw_A ax) (am : Int) (dv G Γ H) (dv G Γ H) := by
  obtain ⟨hA, hG⟩ := lx_tree hI hU hT hax
  have a4 : lw_A ax 4 = ((ax + lw_off.getD 4 0 : Nat) : Int) := lw_Ae rfl
  have a1 : lw_A ax 1 = ((ax + lw_off.getD 1 0 : Nat) : Int) := lw_Ae rfl
  have a0 : lw_A ax 0 = ((ax + lw_off.getD 0 0 : Nat) : Int) := lw_Ae rfl
  have a9 : lw_A ax 9 = ((ax + lw_off.getD 9 0 : Nat) : Int) := lw_Ae rfl
  have a15 : lw_A ax 15 = ((ax + lw_off.getD 15 0 : Nat) : Int) := lw_Ae rfl
  have a7 : lw_A ax 7 = ((ax + lw_off.getD 7 0 : Nat) : Int) := lw_Ae rfl
  have a10 : lw_A ax 10 = ((ax + lw_off.getD 10 0 : Nat) : Int) := lw_Ae rfl
  refine RR_0 lw_inj hG (fun c c0 c9 => ?_) ?_ ?_ ?_ (fun z z0 z1 => ?_) (fun k hk => ?_) ?_ ?_ ?_ (fun c c0 c9 => ?_) (fun z z0 z1 => ?_) (fun z z0 z1 => ?_) (fun z z0 z1 => ?_) ?_ ?_ (fun z => ?_) (fun z z0 z1 => ?_) (lw_kwA hI hA)
  · rw [a4]; exact ⟨(lx_row (j := 0) (r2 := 4) hI hU hT (hA 4 (by decide) rfl) ro_3 rfl ow_4 (by decide) rfl rfl c0 c9), (lx_row (j := 1) (r2 := 5) hI hU hT (hA 4 (by decide) rfl) ro_3 rfl ow_5 (by decide) rfl rfl c0 c9), (lx_row (j := 2) (r2 := 6) hI hU hT (hA 4 (by decide) rfl) ro_3 rfl ow_6 (by decide) rfl rfl c0 c9), (lx_row (j := 3) (r2 := 7) hI hU hT (hA 4 (by decide) rfl) ro_3 rfl ow_7 (by decide) rfl rfl c0 c9), (lx_row (j := 4) (r2 := 8) hI hU hT (hA 4 (by decide) rfl) ro_3 rfl ow_8 (by decide) rfl rfl c0 c9)⟩
  · rw [a4]; exact ⟨(lx_row (j := 5) (r2 := 9) hI hU hT (hA 4 (by decide) rfl) ro_3 rfl ow_9 (by decide) rfl rfl (z := 0) (by decide) (by decide)), (lx_row (j := 5) (r2 := 9) hI hU hT (hA 4 (by decide) rfl) ro_3 rfl ow_9 (by decide) rfl rfl (z := 1) (by decide) (by decide)), (lx_row (j := 5) (r2 := 9) hI hU hT (hA 4 (by decide) rfl) ro_3 rfl ow_9 (by decide) rfl rfl (z := 2) (by decide) (by decide))⟩
  · rw [a4]; exact ⟨(lx_fld (j := 7) (x := 0) hT (hA 4 (by decide) rfl) (by decide) rfl ro_3 rfl rfl (by decide) (by decide)), (lx_fld (j := 8) (x := 8) hT (hA 4 (by decide) rfl) (by decide) rfl ro_3 rfl rfl (by decide) (by decide)), (lx_fld (j := 9) (x := 8) hT (hA 4 (by decide) rfl) (by decide) rfl ro_3 rfl rfl (by decide) (by decide)), (lx_fld (j := 10) (x := 0) hT (hA 4 (by decide) rfl) (by decide) rfl ro_3 rfl rfl (by decide) (by decide))⟩
  · rw [a1]; exact ⟨(lx_fld (j := 5) (x := 0) hT (hA 1 (by decide) rfl) (by decide) rfl ro_32 rfl rfl (by decide) (by decide)), (lx_fld (j := 6) (x := (-1)) hT (hA 1 (by decide) rfl) (by decide) rfl ro_32 rfl rfl (by decide) (by decide)), (lx_fld (j := 7) (x := 0) hT (hA 1 (by decide) rfl) (by decide) rfl ro_32 rfl rfl (by decide) (by decide))⟩
  · rw [(lx_mr (j := 2) (i := 1) hM ham (by decide) rfl rfl rfl rfl z0), if_pos (by omega)]; exact lx_kp z0
  · rw [a0]; exact ⟨(lx_row (j := 2) (r2 := 44) hI hU hT (hA 0 (by decide) rfl) ro_42 rfl ow_44 (by decide) rfl rfl (by omega) (by omega)), by rw [(lx_mr (j := 4) (i := 3) hM ham (by decide) rfl rfl rfl rfl (by omega)), if_pos (by omega)]; rfl⟩
  · rw [a9]; exact ⟨(lx_fld (j := 1) (x := 0) hT (hA 9 (by decide) rfl) (by decide) rfl ro_37 rfl rfl (by decide) (by decide)), (lx_mf (j := 13) (x := 0) hM ham (by decide) rfl (by decide) rfl)⟩
  · rw [a15]; exact ⟨(lx_fld (j := 4) (x := 0) hT (hA 15 (by decide) rfl) (by decide) rfl ro_17 rfl rfl (by decide) (by decide)), (lx_mf (j := 33) (x := 0) hM ham (by decide) rfl (by decide) rfl)⟩
  · rw [a7]; exact ⟨(lx_fld (j := 7) (x := 0) hT (hA 7 (by decide) rfl) (by decide) rfl ro_3 rfl rfl (by decide) (by decide)), Or.inr (lx_mf (j := 55) (x := (-1)) hM ham (by decide) rfl (by decide) rfl)⟩
  · rw [a7]; exact ⟨(lx_row (j := 2) (r2 := 6) hI hU hT (hA 7 (by decide) rfl) ro_3 rfl ow_6 (by decide) rfl rfl c0 c9), (lx_row (j := 3) (r2 := 7) hI hU hT (hA 7 (by decide) rfl) ro_3 rfl ow_7 (by decide) rfl rfl c0 c9), (lx_row (j := 4) (r2 := 8) hI hU hT (hA 7 (by decide) rfl) ro_3 rfl ow_8 (by decide) rfl rfl c0 c9)⟩
  · rw [(lx_mr (j := 54) (i := 23) hM ham (by decide) rfl rfl rfl rfl z0), if_pos (by omega)]; rfl
  · rw [a0]; exact (lx_row (j := 13) (r2 := 45) hI hU hT (hA 0 (by decide) rfl) ro_42 rfl ow_45 (by decide) rfl rfl z0 z1)
  · rw [(lx_mr (j := 1) (i := 0) hM ham (by decide) rfl rfl rfl rfl z0), if_pos (by omega)]; rfl
  · rw [a0]; exact (lx_fld (j := 14) (x := 0) hT (hA 0 (by decide) rfl) (by decide) rfl ro_42 rfl rfl (by decide) (by decide)).trans (lx_mf (j := 0) (x := 0) hM ham (by decide) rfl (by decide) rfl).symm
  · rw [a0]; exact ⟨(lx_fld (j := 15) (x := (-1)) hT (hA 0 (by decide) rfl) (by decide) rfl ro_42 rfl rfl (by decide) (by decide)).trans (lx_mf (j := 14) (x := (-1)) hM ham (by decide) rfl (by decide) rfl).symm, (lx_fld (j := 16) (x := 0) hT (hA 0 (by decide) rfl) (by decide) rfl ro_42 rfl rfl (by decide) (by decide)).trans (lx_mf (j := 6) (x := 0) hM ham (by decide) rfl (by decide) rfl).symm, (lx_fld (j := 17) (x := (-1)) hT (hA 0 (by decide) rfl) (by decide) rfl ro_42 rfl rfl (by decide) (by decide)).trans (lx_mf (j := 47) (x := (-1)) hM ham (by decide) rfl (by decide) rfl).symm⟩
  · rw [a10]
    by_cases z0 : 0 ≤ z
    case neg => rw [dv_no (Or.inl (Or.inr (by omega))), dv_no (Or.inl (Or.inr (by omega)))]
    rw [(lx_mr (j := 17) (i := 10) hM ham (by decide) rfl rfl rfl rfl z0)]
    by_cases z1 : z < 401
    · rw [if_pos (by omega)]; exact (lx_row (j := 1) (r2 := 22) hI hU hT (hA 10 (by decide) rfl) ro_20 rfl ow_22 (by decide) rfl rfl z0 (by omega))
    · rw [if_neg (by omega)]
      obtain ⟨b, e1, e2⟩ := th_fo hI (hA 10 (by decide) rfl) ro_20 (j := 1) (r2 := 22) rfl
      obtain ⟨-, n, h1, h2, h3, h4⟩ := hI b 22 _ _ e2 ro_22
      rw [dv_row hI hU e2 ow_22 z0, lx_out h3 (by omega)]
      rfl
  · exact lx_wd hI hU ham z0 z1
end LXT
