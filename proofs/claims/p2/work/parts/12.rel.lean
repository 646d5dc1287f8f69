section TX
variable {G : th_G} {Γ : th_Ga} {H H1 H2 : Heap}
/-- of a floor: where x isn't NONE, y isn't below 0 -/
def th_XY (G : th_G) (H : Heap) (a : Nat) : Prop := ∀ (bx by_ : Nat), th_sl H a (G.1.2 1 3) = .ref bx → th_sl H a (G.1.2 1 4) = .ref by_ → ∀ c : Nat, c < 9 → th_sl H bx c ≠ .int (-1) → ∃ y : Int32, th_sl H by_ c = .int y ∧ 0 ≤ y.toInt
/-- the same of each step that is kept -/
def th_PS (H : Heap) (b : Nat) : Prop := ∀ u : Nat, u < 16 → ∀ c : Nat, c < 9 → th_sl H b (30 * u + 3 + c) ≠ .int (-1) → ∃ y : Int32, th_sl H b (30 * u + 12 + c) = .int y ∧ 0 ≤ y.toInt
def th_nq (a b : Nat) : Prop := a ≠ b
/-- a memo's rows: cells that nothing else names, as long as its bits say -/
def th_MA (G : th_G) (Γ : th_Ga) (H : Heap) (b t n : Nat) (f : Nat → Value) : Prop := G.2.2 ≤ b ∧ th_ro (Γ b).1 = none ∧ H[b]? = some (arrV (G.2.1 t) n f)
def th_ME (G : th_G) (Γ : th_Ga) (H : Heap) (a n b1 b2 b3 b4 : Nat) : Prop := (n = 10 ∨ n = 12 ∨ n = 14) ∧ th_sl H a (G.1.2 3 0) = .int (nI n) ∧ th_sl H a (G.1.2 3 1) = .ref b1 ∧ th_sl H a (G.1.2 3 2) = .ref b2 ∧ th_sl H a (G.1.2 3 3) = .ref b3 ∧ th_sl H a (G.1.2 3 4) = .ref b4 ∧ (th_nq b1 b2 ∧ th_nq b1 b3 ∧ th_nq b1 b4 ∧ th_nq b2 b3 ∧ th_nq b2 b4 ∧ th_nq b3 b4) ∧
  (∃ f1 : Nat → Int64, th_MA G Γ H b1 1 (2 ^ n) (fun i => .long (f1 i))) ∧ (∃ f2 : Nat → Int32, th_MA G Γ H b2 0 (2 ^ n) (fun i => .int (f2 i))) ∧ (∃ f3 : Nat → Int32, th_MA G Γ H b3 0 (2 ^ n) (fun i => .int (f3 i))) ∧ (∃ f4 : Nat → Int32, th_MA G Γ H b4 0 (2 ^ (n - 1)) (fun i => .int (f4 i)) ∧ ∀ i, 0 ≤ (f4 i).toInt ∧ (f4 i).toInt < 2 ^ n) ∧ ∃ u : Int32, th_sl H a (G.1.2 3 5) = .int u ∧ 0 ≤ u.toInt ∧ u.toInt ≤ 2 ^ (n - 1)
/-- what isn't the system's own is as it was -/
def th_T (Γ : th_Ga) (H H1 : Heap) : Prop := ∀ q : Nat, th_ro (Γ q).1 = none → H1[q]? = H[q]?
theorem th_T_tr (h1 : th_T Γ H H1) (h2 : th_T Γ H1 H2) : th_T Γ H H2 := fun q hq => (h2 q hq).trans (h1 q hq)
theorem th_T_o {a r o : Nat} {d : th_De} (ha : Γ a = (r, o)) (hr : th_ro r = some d) (oq : ∀ q, q ≠ a → H1[q]? = H[q]?) : th_T Γ H H1 := fun q hq => oq q (fun e => by rw [e, ha] at hq; rw [hr] at hq; cases hq)
theorem th_T_s {a r o i : Nat} {d : th_De} {v : Value} (ha : Γ a = (r, o)) (hr : th_ro r = some d) (h : th_St H H1 a i v) : th_T Γ H H1 := th_T_o ha hr h.2.2.2.1
theorem th_T_c {a a0 r o x y z : Nat} {d : th_De} (ha : Γ a = (r, o)) (hr : th_ro r = some d) (h : th_Cp H H1 a0 a x y z) : th_T Γ H H1 := th_T_o ha hr h.2.1
def th_RC (G : th_G) (Γ : th_Ga) (H : Heap) : Prop := (∀ a o : Nat, Γ a = (3, o) → th_XY G H a) ∧ (∀ b o : Nat, (Γ b = (18, o) ∨ Γ b = (19, o)) → th_PS H b) ∧ (∀ a o : Nat, Γ a = (12, o) → ∃ n b1 b2 b3 b4 : Nat, th_ME G Γ H a n b1 b2 b3 b4) ∧ ∀ a a' o o' : Nat, Γ a = (12, o) → Γ a' = (12, o') → a = a'
/-- what the relations of the class read -/
def th_RCs : List (Nat × Nat) := [(3, 3), (3, 4), (7, 0), (8, 0), (18, 0), (19, 0), (12, 0), (12, 1), (12, 2), (12, 3), (12, 4), (12, 5)]
theorem th_ns {L : List (Nat × Nat)} (hs : L.all (fun q => !th_RCs.contains q) = true) {r j : Nat} (hm : th_RCs.contains (r, j) = true) : th_in L r j = false := by
  cases h : th_in L r j with
  | false => rfl
  | true =>
    have h2 := List.all_eq_true.mp hs (r, j) (by simpa [th_in] using h)
    rw [hm] at h2
    cases h2
theorem th_fo (hI : th_I G Γ H) {a r o k j r2 : Nat} {fs : List th_sp} {hi : Int} (ha : Γ a = (r, o)) (hr : th_ro r = some (.inl (k, fs))) (hq : fs[j]? = some (4, (r2 : Int), hi)) : ∃ b : Nat, th_sl H a (G.1.2 k j) = .ref b ∧ Γ b = (r2, a) := by
  obtain ⟨-, -, h⟩ := hI a r o _ ha hr
  obtain ⟨b, h1, h2⟩ := h j _ hq
  exact ⟨b, h1, by simpa using h2⟩
theorem th_ME_keep {L : List (Nat × Nat)} (hF : th_F G Γ L H H1) (hT : th_T Γ H H1) {a o n b1 b2 b3 b4 : Nat} (ha : Γ a = (12, o)) (h0 : th_in L 12 0 = false) (h1 : th_in L 12 1 = false) (h2 : th_in L 12 2 = false) (h3 : th_in L 12 3 = false) (h4 : th_in L 12 4 = false) (h5 : th_in L 12 5 = false) (h : th_ME G Γ H a n b1 b2 b3 b4) : th_ME G Γ H1 a n b1 b2 b3 b4 := by
  obtain ⟨hn, m0, m1, m2, m3, m4, hd, ⟨f1, g1, k1, e1⟩, ⟨f2, g2, k2, e2⟩, ⟨f3, g3, k3, e3⟩, ⟨f4, ⟨g4, k4, e4⟩, r4⟩, u, mu, hu⟩ := h
  exact ⟨hn, (th_F_o hF ha ro_12 (j := 0) (by decide) h0).trans m0, (th_F_o hF ha ro_12 (j := 1) (by decide) h1).trans m1, (th_F_o hF ha ro_12 (j := 2) (by decide) h2).trans m2, (th_F_o hF ha ro_12 (j := 3) (by decide) h3).trans m3, (th_F_o hF ha ro_12 (j := 4) (by decide) h4).trans m4, hd, ⟨f1, g1, k1, (hT b1 k1).trans e1⟩, ⟨f2, g2, k2, (hT b2 k2).trans e2⟩, ⟨f3, g3, k3, (hT b3 k3).trans e3⟩, ⟨f4, ⟨g4, k4, (hT b4 k4).trans e4⟩, r4⟩, u, (th_F_o hF ha ro_12 (j := 5) (by decide) h5).trans mu, hu⟩
theorem th_RC_F {L : List (Nat × Nat)} (hI : th_I G Γ H1) (hR : th_RC G Γ H) (hF : th_F G Γ L H H1) (hT : th_T Γ H H1) (hs : L.all (fun q => !th_RCs.contains q) = true) : th_RC G Γ H1 := by
  obtain ⟨r1, r2, r3, r4⟩ := hR
  refine ⟨fun a o ha => ?_, fun b o hb => ?_, fun a o ha => ?_, r4⟩
  · obtain ⟨bx, m1, g1⟩ := th_fo hI ha ro_3 (j := 3) (r2 := 7) rfl
    obtain ⟨by_, m2, g2⟩ := th_fo hI ha ro_3 (j := 4) (r2 := 8) rfl
    intro bx' by' e1 e2 c hc hne
    cases m1.symm.trans e1
    cases m2.symm.trans e2
    rw [th_F_a hF g1 ro_7 (th_ns hs rfl)] at hne
    rw [th_F_a hF g2 ro_8 (th_ns hs rfl)]
    exact r1 a o ha bx by_ ((th_F_o hF ha ro_3 (j := 3) (by decide) (th_ns hs rfl)).symm.trans m1) ((th_F_o hF ha ro_3 (j := 4) (by decide) (th_ns hs rfl)).symm.trans m2) c hc hne
  · have hk : ∀ i, th_sl H1 b i = th_sl H b i := by
      rcases hb with hb | hb
      · exact th_F_a hF hb ro_18 (th_ns hs rfl)
      · exact th_F_a hF hb ro_19 (th_ns hs rfl)
    intro u hu c hc
    rw [hk, hk]
    exact r2 b o hb u hu c hc
  · obtain ⟨n, b1, b2, b3, b4, h⟩ := r3 a o ha
    exact ⟨n, b1, b2, b3, b4, th_ME_keep hF hT ha (th_ns hs rfl) (th_ns hs rfl) (th_ns hs rfl) (th_ns hs rfl) (th_ns hs rfl) (th_ns hs rfl) h⟩
/-- the floors apart, all else of the class's relations is kept by what x and y are stored -/
theorem th_RC_q {L : List (Nat × Nat)} (hI : th_I G Γ H1) (hR : th_RC G Γ H) (hF : th_F G Γ L H H1) (hT : th_T Γ H H1) (hs : L.all (fun q => [(7, 0), (8, 0)].contains q || !th_RCs.contains q) = true) (hxy : ∀ a o : Nat, Γ a = (3, o) → th_XY G H1 a) : th_RC G Γ H1 := by
  have hn : ∀ {r j : Nat}, th_RCs.contains (r, j) = true → [(7, 0), (8, 0)].contains (r, j) = false → th_in L r j = false := by
    intro r j hm hq
    cases h : th_in L r j with
    | false => rfl
    | true =>
      have h2 := List.all_eq_true.mp hs (r, j) (by simpa [th_in] using h)
      rw [hm, hq] at h2
      cases h2
  obtain ⟨r1, r2, r3, r4⟩ := hR
  refine ⟨hxy, fun b o hb => ?_, fun a o ha => ?_, r4⟩
  · have hk : ∀ i, th_sl H1 b i = th_sl H b i := by
      rcases hb with hb | hb
      · exact th_F_a hF hb ro_18 (hn rfl rfl)
      · exact th_F_a hF hb ro_19 (hn rfl rfl)
    intro u hu c hc
    rw [hk, hk]
    exact r2 b o hb u hu c hc
  · obtain ⟨n, b1, b2, b3, b4, h⟩ := r3 a o ha
    exact ⟨n, b1, b2, b3, b4, th_ME_keep hF hT ha (hn rfl rfl) (hn rfl rfl) (hn rfl rfl) (hn rfl rfl) (hn rfl rfl) (hn rfl rfl) h⟩
/-- two stores, into x and then into y of one floor at one place -/
theorem th_RC_xy (hI : th_I G Γ H2) (hR : th_RC G Γ H) {a o bx by_ i : Nat} {v w : Int32} (ha : Γ a = (3, o)) (gx : Γ bx = (7, a)) (gy : Γ by_ = (8, a)) (mx : th_sl H a (G.1.2 1 3) = .ref bx) (my : th_sl H1 a (G.1.2 1 4) = .ref by_) (h1 : th_St H H1 bx i (.int v)) (h2 : th_St H1 H2 by_ i (.int w)) (hF1 : th_F G Γ [(7, 0)] H H1) (hF2 : th_F G Γ [(8, 0)] H1 H2) (hc : v.toInt = -1 ∨ 0 ≤ w.toInt) : th_RC G Γ H2 := by
  have hF : th_F G Γ [(7, 0), (8, 0)] H H2 := th_F_tr (th_F_tr th_F_rf hF1 (by decide)) hF2 (by decide)
  refine th_RC_q hI hR hF (th_T_tr (th_T_s gx ro_7 h1) (th_T_s gy ro_8 h2)) (by decide) fun a' o' ha' => ?_
  obtain ⟨cx, m1, g1⟩ := th_fo hI ha' ro_3 (j := 3) (r2 := 7) rfl
  obtain ⟨cy, m2, g2⟩ := th_fo hI ha' ro_3 (j := 4) (r2 := 8) rfl
  have m1' := (th_F_o hF ha' ro_3 (j := 3) (by decide) (by decide)).symm.trans m1
  have m2' := (th_F_o hF ha' ro_3 (j := 4) (by decide) (by decide)).symm.trans m2
  intro bx' by' e1 e2 c hcc hne
  cases m1.symm.trans e1
  cases m2.symm.trans e2
  obtain ⟨z1, s1, s2, s3, s4⟩ := h1
  obtain ⟨z2, t1, t2, t3, t4⟩ := h2
  have nxy : cx ≠ by_ := fun e => by rw [e, gy] at g1; cases g1
  have nyx : cy ≠ bx := fun e => by rw [e, gx] at g2; cases g2
  have ex : th_sl H2 cx c = th_sl H1 cx c := th_sl_kept (t3 cx nxy) c
  have ey : th_sl H1 cy c = th_sl H cy c := th_sl_kept (s3 cy nyx) c
  by_cases hq : a' = a
  · subst hq
    cases m1'.symm.trans mx
    have my' := (th_F_o hF1 ha ro_3 (j := 4) (by decide) (by decide)).symm.trans my
    cases m2'.symm.trans my'
    by_cases hi : c = i
    · subst hi
      rw [ex, s1] at hne
      refine ⟨w, t1, ?_⟩
      rcases hc with hc | hc
      · exact absurd (congrArg Value.int (Int32.toInt_inj.mp (by rw [hc]; rfl))) hne
      · exact hc
    · rw [ex, s2 c hi] at hne
      rw [t2 c hi, ey]
      exact hR.1 a' o' ha' _ _ m1' m2' c hcc hne
  · have nx : cx ≠ bx := fun e => by rw [e, gx] at g1; exact hq (Prod.mk.inj g1).2.symm
    have ny : cy ≠ by_ := fun e => by rw [e, gy] at g2; exact hq (Prod.mk.inj g2).2.symm
    rw [ex, th_sl_kept (s3 cx nx)] at hne
    rw [th_sl_kept (t3 cy ny), ey]
    exact hR.1 a' o' ha' _ _ m1' m2' c hcc hne
/-- a store into x where x wasn't NONE -/
theorem th_RC_x (hI : th_I G Γ H1) (hR : th_RC G Γ H) {a o bx i : Nat} {v v0 : Int32} (ha : Γ a = (3, o)) (gx : Γ bx = (7, a)) (mx : th_sl H a (G.1.2 1 3) = .ref bx) (h1 : th_St H H1 bx i (.int v)) (hF : th_F G Γ [(7, 0)] H H1) (h0 : th_sl H bx i = .int v0) (hc : v0.toInt ≠ -1) : th_RC G Γ H1 := by
  refine th_RC_q hI hR hF (th_T_s gx ro_7 h1) (by decide) fun a' o' ha' => ?_
  obtain ⟨cx, m1, g1⟩ := th_fo hI ha' ro_3 (j := 3) (r2 := 7) rfl
  obtain ⟨cy, m2, g2⟩ := th_fo hI ha' ro_3 (j := 4) (r2 := 8) rfl
  have m1' := (th_F_o hF ha' ro_3 (j := 3) (by decide) (by decide)).symm.trans m1
  have m2' := (th_F_o hF ha' ro_3 (j := 4) (by decide) (by decide)).symm.trans m2
  intro bx' by' e1 e2 c hcc hne
  cases m1.symm.trans e1
  cases m2.symm.trans e2
  obtain ⟨z1, s1, s2, s3, s4⟩ := h1
  have nyx : cy ≠ bx := fun e => by rw [e, gx] at g2; cases g2
  rw [th_sl_kept (s3 cy nyx)]
  refine hR.1 a' o' ha' cx cy m1' m2' c hcc ?_
  by_cases hq : a' = a
  · subst hq
    cases m1'.symm.trans mx
    by_cases hi : c = i
    · subst hi
      rw [h0]
      intro e
      cases e
      exact hc rfl
    · rw [s2 c hi] at hne
      exact hne
  · have nx : cx ≠ bx := fun e => by rw [e, gx] at g1; exact hq (Prod.mk.inj g1).2.symm
    rw [th_sl_kept (s3 cx nx)] at hne
    exact hne
end TX
section TX2
variable {G : th_G} {Γ : th_Ga} {H H1 H2 H3 : Heap}
theorem th_XYu (hR : th_RC G Γ H) {a o bx by_ : Nat} {c : Int} {v y : Int32} (ha : Γ a = (3, o)) (mx : th_sl H a (G.1.2 1 3) = .ref bx) (my : th_sl H a (G.1.2 1 4) = .ref by_) (h0 : 0 ≤ c) (h1 : c < 9) (hv : th_sl H bx c.toNat = .int v) (hne : v.toInt ≠ -1) (hy : th_sl H by_ c.toNat = .int y) : 0 ≤ y.toInt := by
  obtain ⟨y', e1, e2⟩ := hR.1 a o ha bx by_ mx my c.toNat (by omega) (by rw [hv]; intro e; cases e; exact hne rfl)
  cases hy.symm.trans e1
  exact e2
end TX2
section TX3
variable {G : th_G} {Γ : th_Ga} {H H1 H2 H3 : Heap}
/-- a floor's x and y are set from a row of places where x NONE goes with all, else y not below 0 -/
theorem th_RC_g (hI : th_I G Γ H2) (hR : th_RC G Γ H) {a o tx ty : Nat} {fx fy : Nat → Value} (ha : Γ a = (3, o)) (gx : Γ tx = (7, a)) (gy : Γ ty = (8, a)) (mx : th_sl H a (G.1.2 1 3) = .ref tx) (my : th_sl H1 a (G.1.2 1 4) = .ref ty)
    (hx : ∀ c, c < 9 → th_sl H1 tx c = fx c) (o1 : ∀ q, q ≠ tx → H1[q]? = H[q]?) (hy : ∀ c, c < 9 → th_sl H2 ty c = fy c) (o2 : ∀ q, q ≠ ty → H2[q]? = H1[q]?) (hF1 : th_F G Γ [(7, 0)] H H1) (hF2 : th_F G Γ [(8, 0)] H1 H2) (hs : ∀ c, c < 9 → fx c ≠ .int (-1) → ∃ y : Int32, fy c = .int y ∧ 0 ≤ y.toInt) : th_RC G Γ H2 := by
  have hF : th_F G Γ [(7, 0), (8, 0)] H H2 := th_F_tr (th_F_tr th_F_rf hF1 (by decide)) hF2 (by decide)
  refine th_RC_q hI hR hF (th_T_tr (th_T_o gx ro_7 o1) (th_T_o gy ro_8 o2)) (by decide) fun a' o' ha' => ?_
  obtain ⟨cx, m1, g1⟩ := th_fo hI ha' ro_3 (j := 3) (r2 := 7) rfl
  obtain ⟨cy, m2, g2⟩ := th_fo hI ha' ro_3 (j := 4) (r2 := 8) rfl
  have m1' := (th_F_o hF ha' ro_3 (j := 3) (by decide) (by decide)).symm.trans m1
  have m2' := (th_F_o hF ha' ro_3 (j := 4) (by decide) (by decide)).symm.trans m2
  intro bx' by' e1 e2 c hcc hne
  cases m1.symm.trans e1
  cases m2.symm.trans e2
  have nxy : cx ≠ ty := fun e => by rw [e, gy] at g1; cases g1
  have nyx : cy ≠ tx := fun e => by rw [e, gx] at g2; cases g2
  have ex : th_sl H2 cx c = th_sl H1 cx c := th_sl_kept (o2 cx nxy) c
  by_cases hq : a' = a
  · subst hq
    cases m1'.symm.trans mx
    have my' := (th_F_o hF1 ha ro_3 (j := 4) (by decide) (by decide)).symm.trans my
    cases m2'.symm.trans my'
    rw [ex, hx c hcc] at hne
    rw [hy c hcc]
    exact hs c hcc hne
  · have nx : cx ≠ tx := fun e => by rw [e, gx] at g1; exact hq (Prod.mk.inj g1).2.symm
    have ny : cy ≠ ty := fun e => by rw [e, gy] at g2; exact hq (Prod.mk.inj g2).2.symm
    rw [ex, th_sl_kept (o1 cx nx)] at hne
    rw [th_sl_kept (o2 cy ny), th_sl_kept (o1 cy nyx)]
    exact hR.1 a' o' ha' cx cy m1' m2' c hcc hne
theorem th_cp0 {a0 a : Nat} (h : th_Cp H H1 a0 a 0 0 9) {c : Nat} (hc : c < 9) : th_sl H1 a c = th_sl H a0 c := by
  rw [h.2.2.1 c]
  unfold va_cpy
  rw [if_pos (by omega)]
  congr 1
  omega
theorem th_RC_cp (hI : th_I G Γ H2) (hR : th_RC G Γ H) {a b o o' tx ox ty oy : Nat} (ha : Γ a = (3, o)) (hb : Γ b = (3, o')) (gx : Γ tx = (7, a)) (gy : Γ ty = (8, a)) (gox : Γ ox = (7, b)) (goy : Γ oy = (8, b)) (mx : th_sl H a (G.1.2 1 3) = .ref tx) (my : th_sl H1 a (G.1.2 1 4) = .ref ty) (mox : th_sl H b (G.1.2 1 3) = .ref ox) (moy : th_sl H1 b (G.1.2 1 4) = .ref oy)
    (c1 : th_Cp H H1 ox tx 0 0 9) (c2 : th_Cp H1 H2 oy ty 0 0 9) (hF1 : th_F G Γ [(7, 0)] H H1) (hF2 : th_F G Γ [(8, 0)] H1 H2) : th_RC G Γ H2 := by
  refine th_RC_g hI hR ha gx gy mx my (fx := th_sl H ox) (fy := th_sl H1 oy) (fun c hc => th_cp0 c1 hc) c1.2.1 (fun c hc => th_cp0 c2 hc) c2.2.1 hF1 hF2 fun c hc hne => ?_
  rw [th_F_a hF1 goy ro_8 (by decide)]
  exact hR.1 b o' hb ox oy mox ((th_F_o hF1 hb ro_3 (j := 4) (by decide) (by decide)).symm.trans moy) c hc hne
/-- what is kept of steps apart, all else of the class's relations -/
theorem th_RC_ps {L : List (Nat × Nat)} (hI : th_I G Γ H1) (hR : th_RC G Γ H) (hF : th_F G Γ L H H1) (hT : th_T Γ H H1) (hs : L.all (fun q => [(18, 0), (19, 0)].contains q || !th_RCs.contains q) = true) (hps : ∀ b o : Nat, (Γ b = (18, o) ∨ Γ b = (19, o)) → th_PS H1 b) : th_RC G Γ H1 := by
  have hn : ∀ {r j : Nat}, th_RCs.contains (r, j) = true → [(18, 0), (19, 0)].contains (r, j) = false → th_in L r j = false := by
    intro r j hm hq
    cases h : th_in L r j with
    | false => rfl
    | true =>
      have h2 := List.all_eq_true.mp hs (r, j) (by simpa [th_in] using h)
      rw [hm, hq] at h2
      cases h2
  obtain ⟨r1, r2, r3, r4⟩ := hR
  refine ⟨fun a o ha => ?_, hps, fun a o ha => ?_, r4⟩
  · obtain ⟨bx, m1, g1⟩ := th_fo hI ha ro_3 (j := 3) (r2 := 7) rfl
    obtain ⟨by_, m2, g2⟩ := th_fo hI ha ro_3 (j := 4) (r2 := 8) rfl
    intro bx' by' e1 e2 c hc hne
    cases m1.symm.trans e1
    cases m2.symm.trans e2
    rw [th_F_a hF g1 ro_7 (hn rfl rfl)] at hne
    rw [th_F_a hF g2 ro_8 (hn rfl rfl)]
    exact r1 a o ha bx by_ ((th_F_o hF ha ro_3 (j := 3) (by decide) (hn rfl rfl)).symm.trans m1) ((th_F_o hF ha ro_3 (j := 4) (by decide) (hn rfl rfl)).symm.trans m2) c hc hne
  · obtain ⟨n, b1, b2, b3, b4, h⟩ := r3 a o ha
    exact ⟨n, b1, b2, b3, b4, th_ME_keep hF hT ha (hn rfl rfl) (hn rfl rfl) (hn rfl rfl) (hn rfl rfl) (hn rfl rfl) (hn rfl rfl) h⟩
theorem th_RC_p {L : List (Nat × Nat)} (hI : th_I G Γ H1) (hR : th_RC G Γ H) (hF : th_F G Γ L H H1) (hT : th_T Γ H H1) (hs : L.all (fun q => [(18, 0), (19, 0)].contains q || !th_RCs.contains q) = true) {b : Nat} (oq : ∀ q, q ≠ b → H1[q]? = H[q]?) (hnew : th_PS H1 b) : th_RC G Γ H1 := by
  refine th_RC_ps hI hR hF hT hs fun b' o hb' => ?_
  by_cases hq : b' = b
  · rw [hq]; exact hnew
  · have hk : ∀ i, th_sl H1 b' i = th_sl H b' i := th_sl_kept (oq b' hq)
    intro u hu c hc
    rw [hk, hk]
    exact hR.2.1 b' o hb' u hu c hc
theorem th_PS_shift {b : Nat} (h : th_PS H b) (cp : th_Cp H H1 b b 30 0 450) : th_PS H1 b := by
  intro u hu c hc
  rw [cp.2.2.1, cp.2.2.1]
  unfold va_cpy
  by_cases h9 : u < 15
  · rw [if_pos (by omega), if_pos (by omega)]
    have := h (u + 1) (by omega) c hc
    rw [show 30 * (u + 1) + 3 + c = 30 + (30 * u + 3 + c - 0) by omega, show 30 * (u + 1) + 12 + c = 30 + (30 * u + 12 + c - 0) by omega] at this
    exact this
  · rw [if_neg (by omega), if_neg (by omega)]
    exact h u hu c hc
theorem th_PS_st {b i : Nat} {v : Value} (h : th_PS H b) (st : th_St H H1 b i v) (hi : i % 30 < 3 ∨ 21 ≤ i % 30) : th_PS H1 b := by
  intro u hu c hc
  rw [st.2.2.1 _ (by omega), st.2.2.1 _ (by omega)]
  exact h u hu c hc
theorem th_PS_cpo {b a0 dp : Nat} (h : th_PS H b) (cp : th_Cp H H1 a0 b 0 dp 9) (hd : dp % 30 = 21) : th_PS H1 b := by
  intro u hu c hc
  rw [cp.2.2.1, cp.2.2.1]
  unfold va_cpy
  rw [if_neg (by omega), if_neg (by omega)]
  exact h u hu c hc
theorem th_PS_all {b b0 : Nat} (h : th_PS H b0) (cp : th_Cp H H1 b0 b 0 0 480) : th_PS H1 b := by
  intro u hu c hc
  rw [cp.2.2.1, cp.2.2.1]
  unfold va_cpy
  rw [if_pos (by omega), if_pos (by omega), Nat.sub_zero, Nat.sub_zero, Nat.zero_add, Nat.zero_add]
  exact h u hu c hc
theorem th_PS_xy {b fa ga k d1 d2 : Nat} (h : th_PS H b) (c1 : th_Cp H H1 fa b 0 d1 9) (h1 : d1 = 30 * k + 3) (c2 : th_Cp H1 H2 ga b 0 d2 9) (h2 : d2 = 30 * k + 12) (hs : ∀ c, c < 9 → th_sl H fa c ≠ .int (-1) → ∃ y : Int32, th_sl H1 ga c = .int y ∧ 0 ≤ y.toInt) : th_PS H2 b := by
  intro u hu c hc
  rw [c2.2.2.1, c2.2.2.1]
  unfold va_cpy
  by_cases h9 : u = k
  · subst h9
    rw [if_neg (by omega), if_pos (by omega), c1.2.2.1]
    unfold va_cpy
    rw [if_pos (by omega), show 0 + (30 * u + 3 + c - d1) = c by omega, show 0 + (30 * u + 12 + c - d2) = c by omega]
    exact hs c hc
  · rw [if_neg (by omega), if_neg (by omega), c1.2.2.1, c1.2.2.1]
    unfold va_cpy
    rw [if_neg (by omega), if_neg (by omega)]
    exact h u hu c hc
theorem th_RC_tb (hI : th_I G Γ H2) (hR : th_RC G Γ H) {a o tx ty b ob k d1 d2 : Nat} (ha : Γ a = (3, o)) (gx : Γ tx = (7, a)) (gy : Γ ty = (8, a)) (gb : Γ b = (18, ob)) (mx : th_sl H a (G.1.2 1 3) = .ref tx) (my : th_sl H1 a (G.1.2 1 4) = .ref ty)
    (c1 : th_Cp H H1 b tx d1 0 9) (h1 : d1 = 30 * k + 3) (hk : k < 16) (c2 : th_Cp H1 H2 b ty d2 0 9) (h2 : d2 = 30 * k + 12) (hF1 : th_F G Γ [(7, 0)] H H1) (hF2 : th_F G Γ [(8, 0)] H1 H2) : th_RC G Γ H2 := by
  refine th_RC_g hI hR ha gx gy mx my (fx := fun c => th_sl H b (30 * k + 3 + c)) (fy := fun c => th_sl H b (30 * k + 12 + c)) (fun c hc => ?_) c1.2.1 (fun c hc => ?_) c2.2.1 hF1 hF2 fun c hc hne => hR.2.1 b ob (Or.inl gb) k hk c hc hne
  · rw [c1.2.2.1]
    unfold va_cpy
    rw [if_pos (by omega), h1, Nat.sub_zero]
  · rw [c2.2.2.1]
    unfold va_cpy
    rw [if_pos (by omega), h2, Nat.sub_zero, th_F_a hF1 gb ro_18 (by decide)]
end TX3
