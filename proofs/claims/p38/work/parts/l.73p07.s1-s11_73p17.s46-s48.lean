section
section QSK
variable {V V' V1 W W' W1 : dV} {a b b' c z : Int} {A : Nat → Int} {K K' : Int → Int} {L L' D : Nat → Nat → Bool} {M M' : Nat → Bool} {k : Nat}
/-- what of the class's objects is as it was -/
def cf (A : Nat → Int) (L : Nat → Nat → Bool) (V V' : dV) : Prop := ∀ (i m : Nat) (z : Int), i < 38 → m < 20 → L i m = false → V' (A i) m z = V (A i) m z
def ag (A : Nat → Int) (D : Nat → Nat → Bool) (V V' : dV) : Prop := ∀ (i m : Nat) (z : Int), i < 38 → m < 20 → D i m = true → V' (A i) m z = V (A i) m z
def apart (L D : Nat → Nat → Bool) : Bool := (List.range 38).all fun i => (List.range 20).all fun m => !(L i m && D i m)
theorem apart_e (h : apart L D = true) (i m : Nat) (hi : i < 38) (hm : m < 20) (hd : D i m = true) : L i m = false := by
  unfold apart at h
  have h1 := List.all_eq_true.mp h i (List.mem_range.mpr hi)
  have h2 := List.all_eq_true.mp h1 m (List.mem_range.mpr hm)
  rw [hd] at h2
  cases hL : L i m with
  | false => rfl
  | true => rw [hL] at h2; cases h2
theorem cf_ag (f : cf A L V V') (h : apart L D = true) : ag A D V V' := fun i m z hi hm hd => f i m z hi hm (apart_e h i m hi hm hd)
theorem cf_r : cf A L V V := fun _ _ _ _ _ _ => rfl
theorem cf_t (f : cf A L V V') (g : cf A L V' V1) : cf A L V V1 := fun i m z hi hm h => (g i m z hi hm h).trans (f i m z hi hm h)
theorem cf_m (f : cf A L V V') (h : ∀ i m, L' i m = false → L i m = false) : cf A L' V V' := fun i m z hi hm hL => f i m z hi hm (h i m hL)
def inj (A : Nat → Int) : Prop := (∀ i j : Nat, i < 38 → j < 38 → A i = A j → i = j) ∧ ∀ i : Nat, i < 38 → A i ≠ -1
theorem inj_n (h : inj A) {i j : Nat} (hi : i < 38) (hj : j < 38) (n : i ≠ j) : A i ≠ A j := fun e => n (h.1 i j hi hj e)
theorem cf_u (hA : inj A) {j n : Nat} {i y : Int} (hj : j < 38) (h : L j n = true) : cf A L V (dv_u V (A j) n i y) := fun i' m z hi hm hL => by
  unfold dv_u
  rw [if_neg]
  rintro ⟨e1, e2, -⟩
  have := hA.1 i' j hi hj e1
  subst this
  subst e2
  rw [h] at hL
  cases hL
def wf (a : Int) (M : Nat → Bool) (W W' : dV) : Prop := ∀ (m : Nat) (z : Int), M m = false → W' a m z = W a m z
theorem wf_r : wf a M W W := fun _ _ _ => rfl
theorem wf_t (f : wf a M W W') (g : wf a M W' W1) : wf a M W W1 := fun m z h => (g m z h).trans (f m z h)
theorem wf_m (f : wf a M W W') (h : ∀ m, M' m = false → M m = false) : wf a M' W W' := fun m z hM => f m z (h m hM)
theorem wf_u {n : Nat} {i y : Int} (h : M n = true) : wf a M W (dv_u W a n i y) := fun m z hM => by
  unfold dv_u
  rw [if_neg]
  rintro ⟨-, e2, -⟩
  subst e2
  rw [h] at hM
  cases hM
/-- the class's objects -/
def G (A : Nat → Int) (V : dV) : Prop := (V (A 0) 0 0 = A 1 ∧ V (A 0) 1 0 = A 2 ∧ V (A 0) 1 1 = A 3 ∧ V (A 0) 3 0 = A 7 ∧ V (A 0) 4 0 = A 8 ∧ V (A 0) 5 0 = A 9 ∧ V (A 0) 6 0 = A 10 ∧ V (A 0) 7 0 = A 11 ∧ V (A 0) 8 0 = A 12 ∧ V (A 0) 9 0 = A 13 ∧ V (A 0) 10 0 = A 15) ∧ V (A 13) 0 0 = A 14 ∧ V (A 15) 2 0 = A 16 ∧ ∀ k : Nat, k < 3 → V (A (1 + k)) 0 0 = A (4 + k) ∧ ∀ t : Nat, t < 6 → V (A (1 + k)) 1 (t : Int) = A (20 + 6 * k + t)
def G_D (i m : Nat) : Bool := (i == 0 && (m ≤ 10 && m != 2)) || (i == 13 && m == 0) || (i == 15 && m == 2) || (1 ≤ i && i ≤ 3 && m ≤ 1)
theorem G_c (h : G A V) (g : ag A G_D V V') : G A V' := by
  obtain ⟨⟨h0, h1, h2, h3, h4, h5, h6, h7, h8, h9, h10⟩, h11, h12, h13⟩ := h
  refine ⟨⟨?_, ?_, ?_, ?_, ?_, ?_, ?_, ?_, ?_, ?_, ?_⟩, ?_, ?_, fun k hk => ⟨?_, fun t ht => ?_⟩⟩
  · rw [g 0 0 0 (by decide) (by decide) rfl]; exact h0
  · rw [g 0 1 0 (by decide) (by decide) rfl]; exact h1
  · rw [g 0 1 1 (by decide) (by decide) rfl]; exact h2
  · rw [g 0 3 0 (by decide) (by decide) rfl]; exact h3
  · rw [g 0 4 0 (by decide) (by decide) rfl]; exact h4
  · rw [g 0 5 0 (by decide) (by decide) rfl]; exact h5
  · rw [g 0 6 0 (by decide) (by decide) rfl]; exact h6
  · rw [g 0 7 0 (by decide) (by decide) rfl]; exact h7
  · rw [g 0 8 0 (by decide) (by decide) rfl]; exact h8
  · rw [g 0 9 0 (by decide) (by decide) rfl]; exact h9
  · rw [g 0 10 0 (by decide) (by decide) rfl]; exact h10
  · rw [g 13 0 0 (by decide) (by decide) rfl]; exact h11
  · rw [g 15 2 0 (by decide) (by decide) rfl]; exact h12
  · rw [g (1 + k) 0 0 (by omega) (by decide) (by unfold G_D; simp; omega)]; exact (h13 k hk).1
  · rw [g (1 + k) 1 t (by omega) (by decide) (by unfold G_D; simp; omega)]; exact (h13 k hk).2 t ht
-- the floor of a stand
def flR (fl : Int) (V : dV) (K : Int → Int) (b : Int) : Prop := ef (V fl) (kf K b) ∧ kgf (V fl)
def fl_eq (φ ψ : Nat → Int → Int) : Prop := ∀ (j : Nat) (c : Int), j ≤ 10 → j ≠ 6 → φ j c = ψ j c
theorem kf_eq (h : ∀ z, (0 ≤ z ∧ z < 47) ∨ (65 ≤ z ∧ z < 70) → K' (b' + z) = K (b + z)) : (∀ c, 0 ≤ c → c < 9 → kf K' b' 0 c = kf K b 0 c ∧ kf K' b' 1 c = kf K b 1 c ∧ kf K' b' 2 c = kf K b 2 c ∧ kf K' b' 3 c = kf K b 3 c ∧ kf K' b' 4 c = kf K b 4 c) ∧ (kf K' b' 5 0 = kf K b 5 0 ∧ kf K' b' 5 1 = kf K b 5 1 ∧ kf K' b' 5 2 = kf K b 5 2) ∧ kf K' b' 7 0 = kf K b 7 0 ∧ kf K' b' 8 0 = kf K b 8 0 ∧ kf K' b' 9 0 = kf K b 9 0 ∧ kf K' b' 10 0 = kf K b 10 0 := by
  refine ⟨fun c c0 c9 => ⟨h _ (by omega), h _ (by omega), h _ (by omega), h _ (by omega), h _ (by omega)⟩, ⟨?_, ?_, ?_⟩, h _ (by omega), h _ (by omega), h _ (by omega), h _ (by omega)⟩
  · show (if (0 : Int) = 0 then K' (b' + 28) else K' (b' + (64 + 0))) = (if (0 : Int) = 0 then K (b + 28) else K (b + (64 + 0)))
    rw [if_pos rfl, if_pos rfl]; exact h _ (by omega)
  · show (if (1 : Int) = 0 then K' (b' + 28) else K' (b' + (64 + 1))) = (if (1 : Int) = 0 then K (b + 28) else K (b + (64 + 1)))
    rw [if_neg (by decide), if_neg (by decide)]; exact h _ (by omega)
  · show (if (2 : Int) = 0 then K' (b' + 28) else K' (b' + (64 + 2))) = (if (2 : Int) = 0 then K (b + 28) else K (b + (64 + 2)))
    rw [if_neg (by decide), if_neg (by decide)]; exact h _ (by omega)
theorem ef_k {φ : Nat → Int → Int} (e : ef φ (kf K b)) (h : ∀ z, (0 ≤ z ∧ z < 47) ∨ (65 ≤ z ∧ z < 70) → K' (b' + z) = K (b + z)) : ef φ (kf K' b') := by
  obtain ⟨k1, ⟨k2, k3, k4⟩, k5, k6, k7, k8⟩ := kf_eq h
  obtain ⟨e1, ⟨e2, e3, e4⟩, e5, e6, e7, e8⟩ := e
  refine ⟨fun c c0 c9 => ?_, ⟨by rw [k2]; exact e2, by rw [k3]; exact e3, by rw [k4]; exact e4⟩, by rw [k5]; exact e5, by rw [k6]; exact e6, by rw [k7]; exact e7, by rw [k8]; exact e8⟩
  obtain ⟨l0, l1, l2, l3, l4⟩ := k1 c c0 c9
  rw [l0, l1, l2, l3, l4]
  exact e1 c c0 c9
theorem fl_ef {φ φ' ψ : Nat → Int → Int} (h : fl_eq φ φ') (e : ef φ ψ) : ef φ' ψ := by
  obtain ⟨e1, ⟨e2, e3, e4⟩, e5, e6, e7, e8⟩ := e
  refine ⟨fun c c0 c9 => ?_, ⟨?_, ?_, ?_⟩, ?_, ?_, ?_, ?_⟩
  · rw [← h 0 c (by decide) (by decide), ← h 1 c (by decide) (by decide), ← h 2 c (by decide) (by decide), ← h 3 c (by decide) (by decide), ← h 4 c (by decide) (by decide)]; exact e1 c c0 c9
  · rw [← h 5 0 (by decide) (by decide)]; exact e2
  · rw [← h 5 1 (by decide) (by decide)]; exact e3
  · rw [← h 5 2 (by decide) (by decide)]; exact e4
  · rw [← h 7 0 (by decide) (by decide)]; exact e5
  · rw [← h 8 0 (by decide) (by decide)]; exact e6
  · rw [← h 9 0 (by decide) (by decide)]; exact e7
  · rw [← h 10 0 (by decide) (by decide)]; exact e8
theorem cov_eq {φ φ' : Nat → Int → Int} (h : fl_eq φ φ') {px py : Int} : cov φ' c px py ↔ cov φ c px py := by
  unfold cov
  rw [h 0 c (by decide) (by decide), h 3 c (by decide) (by decide), h 4 c (by decide) (by decide)]
theorem fl_kg {φ φ' : Nat → Int → Int} (h : fl_eq φ φ') (g : kgf φ) : kgf φ' := by
  have e0 := fun c => h 0 c (by decide) (by decide)
  have e1 := fun c => h 1 c (by decide) (by decide)
  have e2 := fun c => h 2 c (by decide) (by decide)
  have e3 := fun c => h 3 c (by decide) (by decide)
  have e4 := fun c => h 4 c (by decide) (by decide)
  have e5 := fun c => h 5 c (by decide) (by decide)
  have e7 := h 7 0 (by decide) (by decide)
  have e8 := h 8 0 (by decide) (by decide)
  have e9 := h 9 0 (by decide) (by decide)
  have e10 := h 10 0 (by decide) (by decide)
  obtain ⟨⟨b7, b8, b9, bc⟩, gd, gs, gl, gw, gp, gy, gm, gz⟩ := g
  refine ⟨⟨by rw [← e7]; exact b7, by rw [← e8]; exact b8, by rw [← e9]; exact b9, fun c c0 c1 => ?_⟩, fun c d px py c0 c1 d0 d1 hc hd => gd c d px py c0 (by rw [e7]; exact c1) d0 (by rw [e7]; exact d1) ((cov_eq h).mp hc) ((cov_eq h).mp hd), fun c c0 c1 => ?_, fun c c0 c1 hx => ?_, by rw [← e8, ← e9]; exact gw, by rw [← e10]; exact gp, by rw [← e5]; exact gy, by rw [← e5]; exact gm, by rw [← e5]; exact gz⟩
  · rw [← e0, ← e3, ← e4]; exact bc c c0 (by rw [e7]; exact c1)
  · rw [← e0, ← e1, ← e2]; exact gs c c0 (by rw [e7]; exact c1)
  · rw [← e3] at hx
    rw [← e3, ← e0, ← e4, ← e8, ← e9]; exact gl c c0 (by rw [e7]; exact c1) hx
theorem flR_c {fl fl' : Int} (h : flR fl V K b) (h1 : fl_eq (V fl) (V' fl')) (h2 : ∀ z, (0 ≤ z ∧ z < 47) ∨ (65 ≤ z ∧ z < 70) → K' (b' + z) = K (b + z)) : flR fl' V' K' b' := ⟨fl_ef h1 (ef_k h.1 h2), fl_kg h1 h.2⟩
-- what was seen
def seR (s : Int) (V : dV) (K : Int → Int) (b : Int) : Prop := V s 7 0 = K (b + 70) ∧ (0 ≤ V s 7 0 ∧ V s 7 0 ≤ 6) ∧ ∀ z, 0 ≤ z → z < V s 7 0 → V s 2 z = K (b + (47 + 3 * z)) ∧ V s 3 z = K (b + (48 + 3 * z)) ∧ V s 4 z = K (b + (49 + 3 * z))
theorem seR_c {s s' : Int} (h : seR s V K b) (h7 : V' s' 7 0 = V s 7 0) (h2 : ∀ z, 0 ≤ z → z < V s 7 0 → V' s' 2 z = V s 2 z ∧ V' s' 3 z = V s 3 z ∧ V' s' 4 z = V s 4 z) (hK : ∀ z, (47 ≤ z ∧ z < 65) ∨ z = 70 → K' (b' + z) = K (b + z)) : seR s' V' K' b' := by
  obtain ⟨k1, k2, k3⟩ := h
  refine ⟨by rw [h7, k1, hK 70 (Or.inr rfl)], by rw [h7]; exact k2, fun z z0 z1 => ?_⟩
  rw [h7] at z1
  obtain ⟨l1, l2, l3⟩ := h2 z z0 z1
  rw [l1, l2, l3, hK _ (by omega), hK _ (by omega), hK _ (by omega)]
  exact k3 z z0 z1
-- laws
def txR (x : Int) (V : dV) (K : Int → Int) (b t : Int) : Prop := 0 ≤ V x 2 0 ∧ (0 ≤ K (b + (73 + t)) ∧ K (b + (73 + t)) ≤ 400) ∧ tx_ok 0 (tcd K b t) (tvl K b t) (V x 0) (V x 1) (V x 2 0) (K (b + (73 + t))) (V x 3 0)
theorem txR_c {x x' t : Int} (t0 : 0 ≤ t) (t5 : t ≤ 5) (h : txR x V K b t) (h0 : ∀ z, z < V x 2 0 → V' x' 0 z = V x 0 z) (h1 : ∀ z, 0 ≤ z → z < V x 3 0 * 8 → V' x' 1 z = V x 1 z) (h2 : V' x' 2 0 = V x 2 0) (h3 : V' x' 3 0 = V x 3 0) (hK : ∀ z, 73 ≤ z ∧ z < 5680 → K' (b' + z) = K (b + z)) : txR x' V' K' b' t := by
  obtain ⟨k1, k2, k3⟩ := h
  have e := hK (73 + t) (by omega)
  refine ⟨by rw [h2]; exact k1, by rw [e]; exact k2, ?_⟩
  rw [h2, h3, e]
  have g : cg (K (b + (73 + t))) (tcd K b t) (tvl K b t) (tcd K' b' t) (tvl K' b' t) := by
    refine ⟨fun z z0 z1 => ?_, fun z z0 z1 => ?_⟩
    · unfold tcd
      rw [e]
      by_cases q : z < K (b + (73 + t))
      · rw [if_pos q, if_pos q]; exact hK _ (by omega)
      · rw [if_neg q, if_neg q]
    · unfold tvl; exact hK _ (by omega)
  exact cg_tx g (tx_ok_c h0 h1 (Int.le_refl _) k3)
def laR (A : Nat → Int) (k : Nat) (V : dV) (K : Int → Int) (b : Int) : Prop := V (A (1 + k)) 5 0 = K (b + 71) ∧ (0 ≤ V (A (1 + k)) 5 0 ∧ V (A (1 + k)) 5 0 ≤ 6) ∧ V (A (1 + k)) 6 0 = K (b + 72) ∧ (-1 ≤ V (A (1 + k)) 6 0 ∧ V (A (1 + k)) 6 0 < V (A (1 + k)) 5 0) ∧ ∀ t : Nat, (t : Int) < V (A (1 + k)) 5 0 → txR (A (20 + 6 * k + t)) V K b (t : Int)
def la_D (k i m : Nat) : Bool := (i == 1 + k && (m == 5 || m == 6)) || (20 + 6 * k ≤ i && i < 26 + 6 * k && m ≤ 3)
theorem laR_c {k : Nat} (hk : k < 3) (h : laR A k V K b) (g : ag A (la_D k) V V') (hK : ∀ z, 71 ≤ z ∧ z < 5680 → K' (b' + z) = K (b + z)) : laR A k V' K' b' := by
  obtain ⟨k1, k2, k3, k4, k5⟩ := h
  have e5 := g (1 + k) 5 0 (by omega) (by decide) (by unfold la_D; simp)
  have e6 := g (1 + k) 6 0 (by omega) (by decide) (by unfold la_D; simp)
  unfold laR
  rw [e5, e6, hK 71 (by omega), hK 72 (by omega)]
  refine ⟨k1, k2, k3, k4, fun t ht => ?_⟩
  have gx : ∀ (m : Nat) (z : Int), m ≤ 3 → V' (A (20 + 6 * k + t)) m z = V (A (20 + 6 * k + t)) m z := fun m z hm => g _ m z (by omega) (by omega) (by unfold la_D; simp; omega)
  exact txR_c (by omega) (by omega) (k5 t ht) (fun z _ => gx 0 z (by decide)) (fun z _ _ => gx 1 z (by decide)) (gx 2 0 (by decide)) (gx 3 0 (by decide)) (fun z hz => hK z (by omega))
-- a stand
def stR (A : Nat → Int) (k : Nat) (V : dV) (K : Int → Int) (b : Int) : Prop := flR (A (4 + k)) V K b ∧ seR (A (1 + k)) V K b ∧ laR A k V K b
def st_D (k i m : Nat) : Bool := la_D k i m || (i == 4 + k && m ≤ 10 && m != 6) || (i == 1 + k && (m == 2 || m == 3 || m == 4 || m == 7))
theorem ag_fl {k : Nat} (hk : k < 3) (g : ag A (st_D k) V V') : fl_eq (V (A (4 + k))) (V' (A (4 + k))) := fun j c hj h6 => (g (4 + k) j c (by omega) (by omega) (by unfold st_D; simp; omega)).symm
theorem stR_c {k : Nat} (hk : k < 3) (h : stR A k V K b) (g : ag A (st_D k) V V') (hK : ∀ z, 0 ≤ z ∧ z < 5680 → K' (b' + z) = K (b + z)) : stR A k V' K' b' := by
  obtain ⟨h1, h2, h3⟩ := h
  refine ⟨flR_c h1 (ag_fl hk g) (fun z hz => hK z (by omega)), seR_c h2 (g (1 + k) 7 0 (by omega) (by decide) (by unfold st_D la_D; simp)) (fun z z0 z1 => ⟨g (1 + k) 2 z (by omega) (by decide) (by unfold st_D la_D; simp), g (1 + k) 3 z (by omega) (by decide) (by unfold st_D la_D; simp), g (1 + k) 4 z (by omega) (by decide) (by unfold st_D la_D; simp)⟩) (fun z hz => hK z (by omega)), laR_c hk h3 (fun i m z hi hm hd => g i m z hi hm (by unfold st_D; rw [hd]; rfl)) (fun z hz => hK z (by omega))⟩
def imR (A : Nat → Int) (a : Int) (V W : dV) : Prop := ∀ k : Nat, k < 2 → V (A 0) 2 (k : Int) = W a 4 (k : Int) ∧ (V (A 0) 2 (k : Int) ≠ 0 → stR A (k + 1) V (W a 3) (5680 * (k : Int)))
def im_D (i m : Nat) : Bool := (i == 0 && m == 2) || st_D 1 i m || st_D 2 i m
theorem imR_c (h : imR A a V W) (g : ag A im_D V V') (h3 : ∀ z, W' a 3 z = W a 3 z) (h4 : ∀ z, W' a 4 z = W a 4 z) : imR A a V' W' := by
  intro k hk
  obtain ⟨k1, k2⟩ := h k hk
  have e := g 0 2 (k : Int) (by decide) (by decide) rfl
  rw [e, h4]
  refine ⟨k1, fun n => stR_c (by omega) (k2 n) (fun i m z hi hm hd => g i m z hi hm ?_) (fun z _ => h3 _)⟩
  have : k = 0 ∨ k = 1 := by omega
  unfold im_D
  rcases this with rfl | rfl
  · rw [hd]; simp
  · rw [hd]; simp
-- the tape
def tpR (A : Nat → Int) (a : Int) (V W : dV) : Prop := V (A 9) 1 0 = W a 13 0 ∧ (0 ≤ W a 13 0 ∧ W a 13 0 ≤ 400) ∧ ∀ z, 0 ≤ z → z < W a 13 0 → byr (V (A 9) 0 z) (W a 11 z)
def tp_D (i m : Nat) : Bool := i == 9 && m ≤ 1
theorem tpR_c (h : tpR A a V W) (g : ag A tp_D V V') (h1 : ∀ z, W' a 11 z = W a 11 z) (h3 : W' a 13 0 = W a 13 0) : tpR A a V' W' := by
  obtain ⟨k1, k2, k3⟩ := h
  unfold tpR
  rw [g 9 1 0 (by decide) (by decide) rfl, h3]
  refine ⟨k1, k2, fun z z0 z1 => ?_⟩
  rw [g 9 0 z (by decide) (by decide) rfl, h1]
  exact k3 z z0 z1
-- what can be undone
/-- the floor φ with what was kept in L from b on put back -/
def mvf (φ : Nat → Int → Int) (L : Int → Int) (b : Int) : Nat → Int → Int := fun j c => match j with
  | 2 => L (b + c)
  | 3 => L (b + (9 + c))
  | 4 => L (b + (18 + c))
  | 5 => if c = 0 then L (b + 28) else φ 5 c
  | 10 => L (b + 27)
  | j => φ j c
def st1 (S L : Int → Int) (u : Int) : Prop := S (30 * u) = L (30 * u + 29) ∧ (0 ≤ S (30 * u) ∧ S (30 * u) ≤ 3) ∧ S (30 * u + 1) = L (30 * u + 27) ∧ S (30 * u + 2) = L (30 * u + 28) ∧ ∀ c, 0 ≤ c → c < 9 → S (30 * u + (3 + c)) = L (30 * u + (9 + c)) ∧ S (30 * u + (12 + c)) = L (30 * u + (18 + c)) ∧ S (30 * u + (21 + c)) = L (30 * u + c)
def psR (A : Nat → Int) (a : Int) (V W : dV) : Prop := V (A 15) 4 0 = W a 33 0 ∧ (0 ≤ W a 33 0 ∧ W a 33 0 ≤ 16) ∧ ∀ u, 0 ≤ u → u < W a 33 0 → st1 (V (A 15) 0) (W a 31) u ∧ kgf (mvf (V (A 4)) (W a 31) (30 * u))
theorem mvf_eq {φ φ' : Nat → Int → Int} {L : Int → Int} (h : ∀ c, φ' 0 c = φ 0 c ∧ φ' 1 c = φ 1 c ∧ (c ≠ 0 → φ' 5 c = φ 5 c)) (h7 : φ' 7 0 = φ 7 0) (h8 : φ' 8 0 = φ 8 0) (h9 : φ' 9 0 = φ 9 0) (g : kgf (mvf φ L b)) : kgf (mvf φ' L b) := by
  have e : ∀ (c : Int), (mvf φ' L b) 0 c = (mvf φ L b) 0 c ∧ (mvf φ' L b) 1 c = (mvf φ L b) 1 c ∧ (mvf φ' L b) 2 c = (mvf φ L b) 2 c ∧ (mvf φ' L b) 3 c = (mvf φ L b) 3 c ∧ (mvf φ' L b) 4 c = (mvf φ L b) 4 c ∧ (mvf φ' L b) 5 c = (mvf φ L b) 5 c ∧ (mvf φ' L b) 10 c = (mvf φ L b) 10 c := fun c => ⟨(h c).1, (h c).2.1, rfl, rfl, rfl, by
    show (if c = 0 then L (b + 28) else φ' 5 c) = (if c = 0 then L (b + 28) else φ 5 c)
    by_cases q : c = 0
    · rw [if_pos q, if_pos q]
    · rw [if_neg q, if_neg q]; exact (h c).2.2 q, rfl⟩
  have e7 : (mvf φ' L b) 7 0 = (mvf φ L b) 7 0 := h7
  have e8 : (mvf φ' L b) 8 0 = (mvf φ L b) 8 0 := h8
  have e9 : (mvf φ' L b) 9 0 = (mvf φ L b) 9 0 := h9
  generalize mvf φ' L b = ψ' at e e7 e8 e9 ⊢
  generalize mvf φ L b = ψ at e e7 e8 e9 g
  have hc : ∀ c px py, cov ψ' c px py ↔ cov ψ c px py := fun c px py => by
    unfold cov
    rw [(e c).1, (e c).2.2.2.1, (e c).2.2.2.2.1]
  obtain ⟨⟨b7, b8, b9, bc⟩, gd, gs, gl, gw, gp, gy, gm, gz⟩ := g
  refine ⟨⟨by rw [e7]; exact b7, by rw [e8]; exact b8, by rw [e9]; exact b9, fun c c0 c1 => ?_⟩, fun c d px py c0 c1 d0 d1 kc kd => gd c d px py c0 (by rw [← e7]; exact c1) d0 (by rw [← e7]; exact d1) ((hc _ _ _).mp kc) ((hc _ _ _).mp kd), fun c c0 c1 => ?_, fun c c0 c1 hx => ?_, by rw [e8, e9]; exact gw, by rw [(e 0).2.2.2.2.2.2]; exact gp, by rw [(e 0).2.2.2.2.2.1]; exact gy, by rw [(e 1).2.2.2.2.2.1]; exact gm, by rw [(e 2).2.2.2.2.2.1]; exact gz⟩
  · rw [(e c).1, (e c).2.2.2.1, (e c).2.2.2.2.1]; exact bc c c0 (by rw [← e7]; exact c1)
  · rw [(e c).1, (e c).2.1, (e c).2.2.1]; exact gs c c0 (by rw [← e7]; exact c1)
  · rw [(e c).2.2.2.1] at hx
    rw [(e c).1, (e c).2.2.2.1, (e c).2.2.2.2.1, e8, e9]; exact gl c c0 (by rw [← e7]; exact c1) hx
def ps_D (i m : Nat) : Bool := (i == 15 && (m == 0 || m == 4)) || (i == 4 && (m ≤ 1 || m == 5 || m == 7 || m == 8 || m == 9))
theorem psR_c (h : psR A a V W) (g : ag A ps_D V V') (h1 : ∀ z, W' a 31 z = W a 31 z) (h3 : W' a 33 0 = W a 33 0) : psR A a V' W' := by
  obtain ⟨k1, k2, k3⟩ := h
  unfold psR
  rw [g 15 4 0 (by decide) (by decide) rfl, h3, show W' a 31 = W a 31 from funext h1, show V' (A 15) 0 = V (A 15) 0 from funext fun z => g 15 0 z (by decide) (by decide) rfl]
  refine ⟨k1, k2, fun u u0 u1 => ⟨(k3 u u0 u1).1, mvf_eq (fun c => ⟨g 4 0 c (by decide) (by decide) rfl, g 4 1 c (by decide) (by decide) rfl, fun _ => g 4 5 c (by decide) (by decide) rfl⟩) (g 4 7 0 (by decide) (by decide) rfl) (g 4 8 0 (by decide) (by decide) rfl) (g 4 9 0 (by decide) (by decide) rfl) (k3 u u0 u1).2⟩⟩
theorem psR_0 (h4 : V (A 15) 4 0 = 0) (h3 : W a 33 0 = 0) : psR A a V W := ⟨by rw [h4, h3], by rw [h3]; decide, fun u u0 u1 => absurd u1 (by rw [h3]; omega)⟩
-- the years on paper
def ppR (A : Nat → Int) (a : Int) (V W : dV) : Prop := (V (A 7) 7 0 = W a 55 0 ∨ (V (A 7) 7 0 = 0 ∧ W a 55 0 = -1)) ∧ (0 ≤ V (A 7) 7 0 ∧ V (A 7) 7 0 ≤ 9) ∧ ∀ c, 0 ≤ c → c < 9 → V (A 7) 2 c = W a 54 c ∧ V (A 7) 3 c = W a 54 (9 + c) ∧ V (A 7) 4 c = W a 54 (18 + c)
def pp_D (i m : Nat) : Bool := i == 7 && (m == 2 || m == 3 || m == 4 || m == 7)
theorem ppR_c (h : ppR A a V W) (g : ag A pp_D V V') (h4 : ∀ z, W' a 54 z = W a 54 z) (h5 : W' a 55 0 = W a 55 0) : ppR A a V' W' := by
  obtain ⟨k1, k2, k3⟩ := h
  unfold ppR
  rw [g 7 7 0 (by decide) (by decide) rfl, h5]
  refine ⟨k1, k2, fun c c0 c9 => ?_⟩
  rw [g 7 2 c (by decide) (by decide) rfl, g 7 3 c (by decide) (by decide) rfl, g 7 4 c (by decide) (by decide) rfl, h4, h4, h4]
  exact k3 c c0 c9
-- numbers that are told
def miR (A : Nat → Int) (a : Int) (V W : dV) : Prop := (V (A 0) 13 0 = W a 1 1 ∧ V (A 0) 13 1 = W a 1 2 ∧ V (A 0) 13 2 = W a 1 3 ∧ V (A 0) 13 3 = W a 1 5 ∧ V (A 0) 13 4 = W a 1 6) ∧ V (A 0) 14 0 = W a 0 0
def mi_D (i m : Nat) : Bool := i == 0 && (m == 13 || m == 14)
theorem miR_c (h : miR A a V W) (g : ag A mi_D V V') (h0 : W' a 0 0 = W a 0 0) (h1 : ∀ z, W' a 1 z = W a 1 z) : miR A a V' W' := by
  unfold miR
  have e := fun z => g 0 13 z (by decide) (by decide) rfl
  rw [e, e, e, e, e, h1, h1, h1, h1, h1, g 0 14 0 (by decide) (by decide) rfl, h0]
  exact h
def taR (A : Nat → Int) (a : Int) (V W : dV) : Prop := V (A 0) 15 0 = W a 14 0 ∧ V (A 0) 16 0 = W a 6 0 ∧ V (A 0) 17 0 = W a 47 0
def ta_D (i m : Nat) : Bool := i == 0 && (m == 15 || m == 16 || m == 17)
theorem taR_c (h : taR A a V W) (g : ag A ta_D V V') (h14 : W' a 14 0 = W a 14 0) (h6 : W' a 6 0 = W a 6 0) (h47 : W' a 47 0 = W a 47 0) : taR A a V' W' := by
  unfold taR
  rw [g 0 15 0 (by decide) (by decide) rfl, g 0 16 0 (by decide) (by decide) rfl, g 0 17 0 (by decide) (by decide) rfl, h14, h6, h47]
  exact h
-- the reader's places, the words of the reference, what the judge's reckoner has beyond a law's words
def rdR (A : Nat → Int) (a : Int) (V W : dV) : Prop := (∀ z, V (A 10) 1 z = W a 17 z) ∧ (∀ z, 0 ≤ z → z < 127 → W a 7 z = WT.getD z.toNat 0) ∧ ∀ k, 8 ≤ k → k < 23 → -2147483648 ≤ V (A 14) 1 k ∧ V (A 14) 1 k ≤ 2147483647
theorem rdR_c (h : rdR A a V W) (h1 : ∀ z, V' (A 10) 1 z = V (A 10) 1 z) (h2 : ∀ z, 8 ≤ z → V' (A 14) 1 z = V (A 14) 1 z) (h7 : ∀ z, W' a 7 z = W a 7 z) (h17 : ∀ z, W' a 17 z = W a 17 z) : rdR A a V' W' := by
  obtain ⟨k1, k2, k3⟩ := h
  exact ⟨fun z => by rw [h1, h17]; exact k1 z, fun z z0 z1 => by rw [h7]; exact k2 z z0 z1, fun k k8 k23 => by rw [h2 k k8]; exact k3 k k8 k23⟩
/-- class and reference tell the same -/
def RR (A : Nat → Int) (a : Int) (V W : dV) : Prop := inj A ∧ G A V ∧ stR A 0 V (W a 2) 0 ∧ imR A a V W ∧ tpR A a V W ∧ psR A a V W ∧ ppR A a V W ∧ miR A a V W ∧ taR A a V W ∧ rdR A a V W
end QSK
section QSL
variable {V V' V1 W W' W1 : dV} {a b c z t k : Int} {A : Nat → Int}
def an_L (i m : Nat) : Bool := i == 0 && (m == 13 || m == 14)
def an_M (m : Nat) : Bool := m ≤ 1
theorem RR_mi (h : RR A a V W) (f : cf A an_L V V') (g : wf a an_M W W') (hm : miR A a V' W') : RR A a V' W' := by
  obtain ⟨h1, h2, h3, h4, h5, h6, h7, -, h9, h10⟩ := h
  exact ⟨h1, G_c h2 (cf_ag f rfl), stR_c (by decide) h3 (cf_ag f rfl) (fun z _ => g 2 _ rfl), imR_c h4 (cf_ag f rfl) (fun z => g 3 z rfl) (fun z => g 4 z rfl), tpR_c h5 (cf_ag f rfl) (fun z => g 11 z rfl) (g 13 0 rfl), psR_c h6 (cf_ag f rfl) (fun z => g 31 z rfl) (g 33 0 rfl), ppR_c h7 (cf_ag f rfl) (fun z => g 54 z rfl) (g 55 0 rfl), hm, taR_c h9 (cf_ag f rfl) (g 14 0 rfl) (g 6 0 rfl) (g 47 0 rfl), rdR_c h10 (fun z => f 10 1 z (by decide) (by decide) rfl) (fun z _ => f 14 1 z (by decide) (by decide) rfl) (fun z => g 7 z rfl) (fun z => g 17 z rfl)⟩
/-- a refusal's place in both -/
def an_k (k i j : Int) : Prop := (k = -1 ∧ i = 0 ∧ j = 1) ∨ (k = -2 ∧ i = 1 ∧ j = 2) ∨ (k = -3 ∧ i = 2 ∧ j = 3) ∨ (k = -5 ∧ i = 3 ∧ j = 5) ∨ (k = -6 ∧ i = 4 ∧ j = 6)
theorem an_c {i j : Int} (hk : an_k k i j) : f_X11_answer V b k = (dv_u (dv_u V b 14 0 k) b 13 i (dv_add (V b 13 i) 1), k) := by
  unfold f_X11_answer f_X11_answer_10
  rcases hk with ⟨rfl, rfl, rfl⟩ | ⟨rfl, rfl, rfl⟩ | ⟨rfl, rfl, rfl⟩ | ⟨rfl, rfl, rfl⟩ | ⟨rfl, rfl, rfl⟩
  · rw [if_neg (by decide), bq, if_neg (by decide), if_neg (by decide), if_neg (by decide), if_neg (by decide), if_neg (by decide), if_pos rfl, bq, bq, bq, u_j (by decide)]
  · rw [if_neg (by decide), bq, if_neg (by decide), if_neg (by decide), if_neg (by decide), if_neg (by decide), if_pos rfl, bq, bq, bq, u_j (by decide)]
  · rw [if_neg (by decide), bq, if_neg (by decide), if_neg (by decide), if_neg (by decide), if_pos rfl, bq, bq, bq, u_j (by decide)]
  · rw [if_neg (by decide), bq, if_neg (by decide), if_pos rfl, bq, bq, bq, u_j (by decide)]
  · rw [if_neg (by decide), bq, if_pos rfl, bq, bq, bq, u_j (by decide)]
theorem an_m {i j : Int} (hk : an_k k i j) : f_X12_refuses W a k = (dv_u (dv_u W a 0 0 k) a 1 j (dv_add (W a 1 j) 1), k) := by
  have hn : dv_neg k = j := by
    rcases hk with ⟨rfl, rfl, rfl⟩ | ⟨rfl, rfl, rfl⟩ | ⟨rfl, rfl, rfl⟩ | ⟨rfl, rfl, rfl⟩ | ⟨rfl, rfl, rfl⟩ <;> rfl
  unfold f_X12_refuses
  rw [bq, bq, hn, bq, bq, bq, u_j (by decide)]
theorem an_g (h : 0 ≤ t) : f_X11_answer V b t = (dv_u V b 14 0 0, t) := by
  unfold f_X11_answer f_X11_answer_10
  rw [if_pos h, bq, if_neg (by omega), if_neg (by omega), if_neg (by omega), if_neg (by omega), if_neg (by omega), if_neg (by omega)]
theorem an_gm : f_X12_good W a t = (dv_u W a 0 0 0, t) := by
  unfold f_X12_good
  rw [bq]
/-- both refuse -/
theorem RR_bad {i j : Int} (h : RR A a V W) (hk : an_k k i j) : ∃ V' W', f_X11_answer V (A 0) k = (V', k) ∧ f_X12_refuses W a k = (W', k) ∧ RR A a V' W' := by
  have hA := h.1
  obtain ⟨-, -, -, -, -, -, -, ⟨⟨m0, m1, m2, m3, m4⟩, ms⟩, -⟩ := id h
  refine ⟨_, _, an_c hk, an_m hk, RR_mi h (cf_t (cf_u hA (by decide) rfl) (cf_u hA (by decide) rfl)) (wf_t (wf_u rfl) (wf_u rfl)) ⟨?_, ?_⟩⟩
  · have e : ∀ x y z : Int, dv_u (dv_u V (A 0) 14 0 k) (A 0) 13 i x (A 0) 13 y = if y = i then x else V (A 0) 13 y := fun x y z => by rw [u_if, u_j (by decide)]
    have e' : ∀ x y z : Int, dv_u (dv_u W a 0 0 k) a 1 j x a 1 y = if y = j then x else W a 1 y := fun x y z => by rw [u_if, u_j (by decide)]
    rw [e _ 0 0, e _ 1 0, e _ 2 0, e _ 3 0, e _ 4 0, e' _ 1 0, e' _ 2 0, e' _ 3 0, e' _ 5 0, e' _ 6 0]
    rcases hk with ⟨-, rfl, rfl⟩ | ⟨-, rfl, rfl⟩ | ⟨-, rfl, rfl⟩ | ⟨-, rfl, rfl⟩ | ⟨-, rfl, rfl⟩
    · rw [m0]; exact ⟨rfl, m1, m2, m3, m4⟩
    · rw [m1]; exact ⟨m0, rfl, m2, m3, m4⟩
    · rw [m2]; exact ⟨m0, m1, rfl, m3, m4⟩
    · rw [m3]; exact ⟨m0, m1, m2, rfl, m4⟩
    · rw [m4]; exact ⟨m0, m1, m2, m3, rfl⟩
  · rw [u_j (by decide), u_e, u_j (by decide), u_e]
/-- both answer -/
theorem RR_good (h : RR A a V W) (ht : 0 ≤ t) : ∃ V' W', f_X11_answer V (A 0) t = (V', t) ∧ f_X12_good W a t = (W', t) ∧ RR A a V' W' := by
  have hA := h.1
  obtain ⟨-, -, -, -, -, -, -, ⟨hm, ms⟩, -⟩ := id h
  refine ⟨_, _, an_g ht, an_gm, RR_mi h (cf_u hA (by decide) rfl) (wf_u rfl) ⟨?_, ?_⟩⟩
  · have e : ∀ z, dv_u V (A 0) 14 0 0 (A 0) 13 z = V (A 0) 13 z := fun z => u_j (by decide)
    have e' : ∀ z, dv_u W a 0 0 0 a 1 z = W a 1 z := fun z => u_j (by decide)
    rw [e, e, e, e, e, e', e', e', e', e']
    exact hm
  · rw [u_e, u_e]
def L_a (i m : Nat) : Bool := i == 4 || i == 8 || i == 11 || i == 12 || i == 14 || (i == 15 && m != 2) || i == 16
def M_a (m : Nat) : Bool := m == 2 || m == 5 || (22 ≤ m && m ≤ 45) || (48 ≤ m && m ≤ 53) || m == 56
/-- the floor and what can be undone have changed -/
theorem RR_act (h : RR A a V W) (f : cf A L_a V V') (g : wf a M_a W W') (f14 : ∀ z, 8 ≤ z → V' (A 14) 1 z = V (A 14) 1 z) (hK : ∀ z, (47 ≤ z ∧ z < 65) ∨ (70 ≤ z ∧ z < 5680) → W' a 2 z = W a 2 z) (hf : flR (A 4) V' (W' a 2) 0) (hp : psR A a V' W') : RR A a V' W' := by
  obtain ⟨h1, h2, ⟨-, k2, k3⟩, h4, h5, -, h7, h8, h9, h10⟩ := h
  have hz : ∀ z : Int, 0 + z = z := Int.zero_add
  refine ⟨h1, G_c h2 (cf_ag f rfl), ⟨hf, seR_c k2 (f 1 7 0 (by decide) (by decide) rfl) (fun z _ _ => ⟨f 1 2 z (by decide) (by decide) rfl, f 1 3 z (by decide) (by decide) rfl, f 1 4 z (by decide) (by decide) rfl⟩) (fun z hz => by rw [Int.zero_add]; exact hK z (by omega)), laR_c (by decide) k3 (cf_ag f rfl) (fun z hz => by rw [Int.zero_add]; exact hK z (by omega))⟩, imR_c h4 (cf_ag f rfl) (fun z => g 3 z rfl) (fun z => g 4 z rfl), tpR_c h5 (cf_ag f rfl) (fun z => g 11 z rfl) (g 13 0 rfl), hp, ppR_c h7 (cf_ag f rfl) (fun z => g 54 z rfl) (g 55 0 rfl), miR_c h8 (cf_ag f rfl) (g 0 0 rfl) (fun z => g 1 z rfl), taR_c h9 (cf_ag f rfl) (g 14 0 rfl) (g 6 0 rfl) (g 47 0 rfl), rdR_c h10 (fun z => f 10 1 z (by decide) (by decide) rfl) f14 (fun z => g 7 z rfl) (fun z => g 17 z rfl)⟩
/-- nothing that counts has changed -/
theorem RR_idle (h : RR A a V W) (f : cf A L_a V V') (g : wf a M_a W W') (f14 : ∀ z, 8 ≤ z → V' (A 14) 1 z = V (A 14) 1 z) (f4 : ∀ (m : Nat) (z : Int), m ≤ 10 → m ≠ 6 → V' (A 4) m z = V (A 4) m z) (f15 : ∀ z, V' (A 15) 0 z = V (A 15) 0 z ∧ V' (A 15) 4 z = V (A 15) 4 z) (g2 : ∀ z, W' a 2 z = W a 2 z) (g31 : ∀ z, W' a 31 z = W a 31 z) (g33 : W' a 33 0 = W a 33 0) : RR A a V' W' := by
  obtain ⟨-, -, ⟨k1, -, -⟩, -, -, h6, -⟩ := id h
  refine RR_act h f g f14 (fun z _ => g2 z) (flR_c k1 (fun j c hj h6 => (f4 j c hj h6).symm) (fun z _ => g2 _)) ?_
  obtain ⟨p1, p2, p3⟩ := h6
  unfold psR
  rw [(f15 0).2, g33, show W' a 31 = W a 31 from funext g31, show V' (A 15) 0 = V (A 15) 0 from funext fun z => (f15 z).1]
  exact ⟨p1, p2, fun u u0 u1 => ⟨(p3 u u0 u1).1, mvf_eq (fun c => ⟨f4 0 c (by decide) (by decide), f4 1 c (by decide) (by decide), fun _ => f4 5 c (by decide) (by decide)⟩) (f4 7 0 (by decide) (by decide)) (f4 8 0 (by decide) (by decide)) (f4 9 0 (by decide) (by decide)) (p3 u u0 u1).2⟩⟩
-- carpets
theorem c_add1 {fl s p : Int} (hs : 1 ≤ s ∧ s ≤ 12) (hk : 0 ≤ k ∧ k ≤ 3) (hp : 0 ≤ p ∧ p ≤ 9) (hn : V fl 7 0 < 9) : ∃ V', f_X1_add V fl s k p = (V', V fl 7 0) ∧ (∀ b m z, b ≠ fl → V' b m z = V b m z) ∧ (∀ m z, m ≠ 0 → m ≠ 1 → m ≠ 2 → m ≠ 3 → m ≠ 4 → m ≠ 7 → V' fl m z = V fl m z) ∧ V' fl 7 0 = V fl 7 0 + 1 ∧ ∀ z, (V' fl 0 z = if z = V fl 7 0 then s else V fl 0 z) ∧ (V' fl 1 z = if z = V fl 7 0 then k else V fl 1 z) ∧ (V' fl 2 z = if z = V fl 7 0 then p else V fl 2 z) ∧ (V' fl 3 z = if z = V fl 7 0 then -1 else V fl 3 z) ∧ (V' fl 4 z = if z = V fl 7 0 then -1 else V fl 4 z) := by
  have e7 : ∀ (U : dV) (j : Nat) (x y : Int), j ≠ 7 → dv_u U fl j x y fl 7 0 = U fl 7 0 := fun U j x y h => u_j (Ne.symm h)
  unfold f_X1_add
  rw [if_neg (by omega), if_neg (by omega), if_neg (by omega), if_neg (by omega), if_neg (by omega), if_pos hp.2, bq, if_pos hn, bq, bq, bq, e7 _ _ _ _ (by decide), bq, bq, e7 _ _ _ _ (by decide), e7 _ _ _ _ (by decide), bq, bq, e7 _ _ _ _ (by decide), e7 _ _ _ _ (by decide), e7 _ _ _ _ (by decide), bq, bq, e7 _ _ _ _ (by decide), e7 _ _ _ _ (by decide), e7 _ _ _ _ (by decide), e7 _ _ _ _ (by decide), bq, bq, e7 _ _ _ _ (by decide), e7 _ _ _ _ (by decide), e7 _ _ _ _ (by decide), e7 _ _ _ _ (by decide), e7 _ _ _ _ (by decide), bq, bq, bq, u_e, bq]
  refine ⟨_, by rw [show V fl 7 0 + 1 - 1 = V fl 7 0 by omega], fun b m z hb => ?_, fun m z h0 h1 h2 h3 h4 h7 => ?_, u_e, fun z => ⟨?_, ?_, ?_, ?_, ?_⟩⟩
  · rw [u_b hb, u_b hb, u_b hb, u_b hb, u_b hb, u_b hb]
  · rw [u_j h7, u_j h4, u_j h3, u_j h2, u_j h1, u_j h0]
  · rw [u_j (by decide), u_j (by decide), u_j (by decide), u_j (by decide), u_j (by decide), u_if]
  · rw [u_j (by decide), u_j (by decide), u_j (by decide), u_j (by decide), u_if, u_j (by decide)]
  · rw [u_j (by decide), u_j (by decide), u_j (by decide), u_if, u_j (by decide), u_j (by decide)]
  · rw [u_j (by decide), u_j (by decide), u_if, u_j (by decide), u_j (by decide), u_j (by decide)]
  · rw [u_j (by decide), u_if, u_j (by decide), u_j (by decide), u_j (by decide), u_j (by decide)]
theorem c_add0 {fl s p : Int} (h : ¬ ((1 ≤ s ∧ s ≤ 12) ∧ (0 ≤ k ∧ k ≤ 3) ∧ 0 ≤ p ∧ p ≤ 9)) : f_X1_add V fl s k p = (V, -1) := by
  unfold f_X1_add
  by_cases h1 : s < 1
  · rw [if_pos h1]
  · rw [if_neg h1]
    by_cases h2 : 12 < s
    · rw [if_pos h2]
    · rw [if_neg h2]
      by_cases h3 : k < 0
      · rw [if_pos h3]
      · rw [if_neg h3]
        by_cases h4 : 3 < k
        · rw [if_pos h4]
        · rw [if_neg h4]
          by_cases h5 : p < 0
          · rw [if_pos h5]
          · rw [if_neg h5, if_neg (by omega)]
theorem c_add5 {fl s p : Int} (hs : 1 ≤ s ∧ s ≤ 12) (hk : 0 ≤ k ∧ k ≤ 3) (hp : 0 ≤ p ∧ p ≤ 9) (hn : ¬ V fl 7 0 < 9) : f_X1_add V fl s k p = (V, -5) := by
  unfold f_X1_add
  rw [if_neg (by omega), if_neg (by omega), if_neg (by omega), if_neg (by omega), if_neg (by omega), if_pos hp.2, bq, if_neg hn]
theorem m_adds {s p : Int} (hn : 0 ≤ W a 2 69 ∧ W a 2 69 < 9) : ∃ W', f_X12_adds W a s k p = (W', 0) ∧ (∀ b m z, ¬ (b = a ∧ m = 2) → W' b m z = W b m z) ∧ ∀ z, W' a 2 z = if z = 69 then W a 2 69 + 1 else if z = 29 + W a 2 69 then s else if z = 38 + W a 2 69 then k else if z = W a 2 69 then p else if z = 9 + W a 2 69 ∨ z = 18 + W a 2 69 then -1 else W a 2 z := by
  unfold f_X12_adds f_X12_rolls
  rw [dv_bn2 q_many, bq, bq, bq, bq, bq, bq, bq, bq, bq, bq, dv_bn2 rfl, bq, bq, bq, Int.zero_add]
  refine ⟨_, rfl, fun b m z h => ?_, fun z => ?_⟩
  · by_cases hb : b = a
    · have hm : m ≠ 2 := fun q => h ⟨hb, q⟩
      rw [u_j hm, u_j hm, u_j hm, u_j hm, u_j hm, u_j hm]
    · rw [u_b hb, u_b hb, u_b hb, u_b hb, u_b hb, u_b hb]
  · rw [u_i (show (69 : Int) ≠ 18 + W a 2 69 by omega), u_i (show (69 : Int) ≠ 9 + W a 2 69 by omega), u_i (show (69 : Int) ≠ W a 2 69 by omega), u_i (show (69 : Int) ≠ 38 + W a 2 69 by omega), u_i (show (69 : Int) ≠ 29 + W a 2 69 by omega), u_if, u_if, u_if, u_if, u_if, u_if]
    by_cases e : z = 69
    · rw [if_pos e, if_pos e]
    · rw [if_neg e, if_neg e]
      by_cases e1 : z = 29 + W a 2 69
      · have n1 : ¬ z = 18 + W a 2 69 := by omega
        have n2 : ¬ z = 9 + W a 2 69 := by omega
        have n3 : ¬ z = W a 2 69 := by omega
        have n4 : ¬ z = 38 + W a 2 69 := by omega
        simp only [if_pos e1, if_neg n1, if_neg n2, if_neg n3, if_neg n4]
      · by_cases e2 : z = 38 + W a 2 69
        · have n1 : ¬ z = 18 + W a 2 69 := by omega
          have n2 : ¬ z = 9 + W a 2 69 := by omega
          have n3 : ¬ z = W a 2 69 := by omega
          simp only [if_neg e1, if_pos e2, if_neg n1, if_neg n2, if_neg n3]
        · by_cases e3 : z = W a 2 69
          · have n1 : ¬ z = 18 + W a 2 69 := by omega
            have n2 : ¬ z = 9 + W a 2 69 := by omega
            simp only [if_neg e1, if_neg e2, if_pos e3, if_neg n1, if_neg n2]
          · by_cases e4 : z = 18 + W a 2 69
            · have n1 : z = 9 + W a 2 69 ∨ z = 18 + W a 2 69 := Or.inr e4
              simp only [if_neg e1, if_neg e2, if_neg e3, if_pos e4, if_pos n1]
            · by_cases e5 : z = 9 + W a 2 69
              · have n1 : z = 9 + W a 2 69 ∨ z = 18 + W a 2 69 := Or.inl e5
                simp only [if_neg e1, if_neg e2, if_neg e3, if_neg e4, if_pos e5, if_pos n1]
              · have n1 : ¬ (z = 9 + W a 2 69 ∨ z = 18 + W a 2 69) := by omega
                simp only [if_neg e1, if_neg e2, if_neg e3, if_neg e4, if_neg e5, if_neg n1]
end QSL
section QSM
variable {V V' V1 W W' W1 : dV} {a b c z t k s p x y : Int} {A : Nat → Int} {K K' : Int → Int} {φ φ' : Nat → Int → Int} {L : Nat → Nat → Bool} {M : Nat → Bool}
theorem cf_b {j : Nat} (hA : inj A) (hj : j < 38) (h : ∀ b m z, b ≠ A j → V' b m z = V b m z) (hL : ∀ m, L j m = true) : cf A L V V' := fun i m z hi hm hLi => by
  by_cases e : i = j
  · subst e; rw [hL m] at hLi; cases hLi
  · exact h _ m z (inj_n hA hi hj e)
theorem wf_b {n : Nat} (h : ∀ b m z, ¬ (b = a ∧ m = n) → W' b m z = W b m z) (hM : M n = true) : wf a M W W' := fun m z hm => h a m z (fun q => by rw [q.2, hM] at hm; cases hm)
theorem kg_add (g : kgf φ) (hn : φ 7 0 < 9) (hs : 1 ≤ s ∧ s ≤ 12) (hk : 0 ≤ k ∧ k ≤ 3) (hp : 0 ≤ p ∧ p ≤ 9) (h7 : φ' 7 0 = φ 7 0 + 1) (hc : ∀ z, (φ' 0 z = if z = φ 7 0 then s else φ 0 z) ∧ (φ' 1 z = if z = φ 7 0 then k else φ 1 z) ∧ (φ' 2 z = if z = φ 7 0 then p else φ 2 z) ∧ (φ' 3 z = if z = φ 7 0 then -1 else φ 3 z) ∧ (φ' 4 z = if z = φ 7 0 then -1 else φ 4 z)) (h5 : ∀ z, φ' 5 z = φ 5 z) (h8 : φ' 8 0 = φ 8 0) (h9 : φ' 9 0 = φ 9 0) (h10 : φ' 10 0 = φ 10 0) : kgf φ' := by
  obtain ⟨⟨b7, b8, b9, bc⟩, gd, gs, gl, gw, gp, gy, gm, gz⟩ := g
  have hcov : ∀ c px py, cov φ' c px py → c ≠ φ 7 0 ∧ cov φ c px py := by
    intro c px py hv
    unfold cov at hv
    obtain ⟨e0, -, -, e3, e4⟩ := hc c
    by_cases e : c = φ 7 0
    · rw [if_pos e] at e3; exact absurd e3 hv.1
    · rw [if_neg e] at e0 e3 e4
      rw [e0, e3, e4] at hv
      exact ⟨e, hv⟩
  refine ⟨⟨by omega, by rw [h8]; exact b8, by rw [h9]; exact b9, fun c c0 c1 => ?_⟩, fun c d px py c0 c1 d0 d1 kc kd => ?_, fun c c0 c1 => ?_, fun c c0 c1 hx => ?_, by rw [h8, h9]; exact gw, by rw [h10]; exact gp, by rw [h5]; exact gy, by rw [h5]; exact gm, by rw [h5]; exact gz⟩
  · obtain ⟨e0, -, -, e3, e4⟩ := hc c
    rw [e0, e3, e4]
    by_cases e : c = φ 7 0
    · rw [if_pos e, if_pos e, if_pos e]; omega
    · rw [if_neg e, if_neg e, if_neg e]; exact bc c c0 (by omega)
  · obtain ⟨n1, v1⟩ := hcov c px py kc
    obtain ⟨n2, v2⟩ := hcov d px py kd
    exact gd c d px py c0 (by omega) d0 (by omega) v1 v2
  · obtain ⟨e0, e1, e2, -, -⟩ := hc c
    rw [e0, e1, e2]
    by_cases e : c = φ 7 0
    · rw [if_pos e, if_pos e, if_pos e]; omega
    · rw [if_neg e, if_neg e, if_neg e]; exact gs c c0 (by omega)
  · obtain ⟨e0, -, -, e3, e4⟩ := hc c
    rw [e3] at hx
    rw [e0, e3, e4, h8, h9]
    by_cases e : c = φ 7 0
    · rw [if_pos e] at hx; exact absurd rfl hx
    · rw [if_neg e] at hx
      rw [if_neg e, if_neg e, if_neg e]; exact gl c c0 (by omega) hx
theorem ef_add (e : ef φ (kf K 0)) (hn : 0 ≤ φ 7 0 ∧ φ 7 0 < 9) (h7 : φ' 7 0 = φ 7 0 + 1) (hc : ∀ z, (φ' 0 z = if z = φ 7 0 then s else φ 0 z) ∧ (φ' 1 z = if z = φ 7 0 then k else φ 1 z) ∧ (φ' 2 z = if z = φ 7 0 then p else φ 2 z) ∧ (φ' 3 z = if z = φ 7 0 then -1 else φ 3 z) ∧ (φ' 4 z = if z = φ 7 0 then -1 else φ 4 z)) (h5 : ∀ z, φ' 5 z = φ 5 z) (h8 : φ' 8 0 = φ 8 0) (h9 : φ' 9 0 = φ 9 0) (h10 : φ' 10 0 = φ 10 0) (hK : ∀ z, K' z = if z = 69 then K 69 + 1 else if z = 29 + K 69 then s else if z = 38 + K 69 then k else if z = K 69 then p else if z = 9 + K 69 ∨ z = 18 + K 69 then -1 else K z) : ef φ' (kf K' 0) := by
  obtain ⟨e1, ⟨e2, e3, e4⟩, e5, e6, e7, e8⟩ := e
  simp only [kf, Int.zero_add] at e1 e2 e3 e4 e5 e6 e7 e8
  rw [if_pos trivial] at e2
  rw [if_neg (by decide)] at e3 e4
  rw [← e5] at hK
  have hz : ∀ z, z ≠ 69 → z ≠ 29 + φ 7 0 → z ≠ 38 + φ 7 0 → z ≠ φ 7 0 → z ≠ 9 + φ 7 0 → z ≠ 18 + φ 7 0 → K' z = K z := fun z n1 n2 n3 n4 n5 n6 => by rw [hK, if_neg n1, if_neg n2, if_neg n3, if_neg n4, if_neg (by omega)]
  refine ⟨fun c c0 c9 => ?_, ⟨?_, ?_, ?_⟩, ?_, ?_, ?_, ?_⟩
  · obtain ⟨a0, a1, a2, a3, a4⟩ := hc c
    obtain ⟨d0, d1, d2, d3, d4⟩ := e1 c c0 c9
    simp only [kf, Int.zero_add]
    rw [a0, a1, a2, a3, a4]
    by_cases e : c = φ 7 0
    · rw [hK (29 + c), hK (38 + c), hK c, hK (9 + c), hK (18 + c), if_pos e, if_pos e, if_pos e, if_pos e, if_pos e, if_neg (by omega), if_pos (by omega), if_neg (by omega), if_neg (by omega), if_pos (by omega), if_neg (by omega), if_neg (by omega), if_neg (by omega), if_pos e, if_neg (by omega), if_neg (by omega), if_neg (by omega), if_neg (by omega), if_pos (by omega), if_neg (by omega), if_neg (by omega), if_neg (by omega), if_neg (by omega), if_pos (by omega)]
      exact ⟨rfl, rfl, rfl, rfl, rfl⟩
    · rw [if_neg e, if_neg e, if_neg e, if_neg e, if_neg e, hz (29 + c) (by omega) (by omega) (by omega) (by omega) (by omega) (by omega), hz (38 + c) (by omega) (by omega) (by omega) (by omega) (by omega) (by omega), hz c (by omega) (by omega) (by omega) (by omega) (by omega) (by omega), hz (9 + c) (by omega) (by omega) (by omega) (by omega) (by omega) (by omega), hz (18 + c) (by omega) (by omega) (by omega) (by omega) (by omega) (by omega)]
      exact ⟨d0, d1, d2, d3, d4⟩
  · simp only [kf, Int.zero_add]
    rw [if_pos trivial, h5, hz 28 (by omega) (by omega) (by omega) (by omega) (by omega) (by omega)]; exact e2
  · simp only [kf, Int.zero_add]
    rw [if_neg (by decide), h5, hz (64 + 1) (by omega) (by omega) (by omega) (by omega) (by omega) (by omega)]; exact e3
  · simp only [kf, Int.zero_add]
    rw [if_neg (by decide), h5, hz (64 + 2) (by omega) (by omega) (by omega) (by omega) (by omega) (by omega)]; exact e4
  · simp only [kf, Int.zero_add]
    rw [h7, hK 69, if_pos rfl, e5]
  · simp only [kf, Int.zero_add]
    rw [h8, hz 67 (by omega) (by omega) (by omega) (by omega) (by omega) (by omega)]; exact e6
  · simp only [kf, Int.zero_add]
    rw [h9, hz 68 (by omega) (by omega) (by omega) (by omega) (by omega) (by omega)]; exact e7
  · simp only [kf, Int.zero_add]
    rw [h10, hz 27 (by omega) (by omega) (by omega) (by omega) (by omega) (by omega)]; exact e8
/-- a carpet came: the same in both, and nothing can be undone -/
theorem RR_add (h : RR A a V W) (hs : 1 ≤ s ∧ s ≤ 12) (hk : 0 ≤ k ∧ k ≤ 3) (hp : 0 ≤ p ∧ p ≤ 9) (hn : V (A 4) 7 0 < 9) : ∃ V' W', f_X1_add V (A 4) s k p = (V', V (A 4) 7 0) ∧ f_X12_adds W a s k p = (W', 0) ∧ (∀ b m z, b ≠ A 4 → V' b m z = V b m z) ∧ (∀ b m z, ¬ (b = a ∧ m = 2) → W' b m z = W b m z) ∧ (∀ z, 47 ≤ z → z ≠ 69 → W' a 2 z = W a 2 z) ∧ flR (A 4) V' (W' a 2) 0 ∧ V' (A 4) 7 0 = V (A 4) 7 0 + 1 := by
  obtain ⟨hA, -, ⟨⟨k1, k1'⟩, -, -⟩, -⟩ := id h
  have e7 : V (A 4) 7 0 = W a 2 69 := by have := k1.2.2.1; simp only [kf, Int.zero_add] at this; exact this
  have n0 : 0 ≤ V (A 4) 7 0 ∧ V (A 4) 7 0 ≤ 9 := k1'.1.1
  obtain ⟨V', eV, f1, f2, f3, f4⟩ := c_add1 (V := V) (fl := A 4) hs hk hp hn
  obtain ⟨W', eW, g1, g2⟩ := m_adds (W := W) (a := a) (s := s) (k := k) (p := p) (by omega)
  refine ⟨V', W', eV, eW, f1, g1, fun z z0 z1 => ?_, ⟨?_, ?_⟩, f3⟩
  · rw [g2, if_neg z1, if_neg (by omega), if_neg (by omega), if_neg (by omega), if_neg (by omega)]
  · exact ef_add (φ := V (A 4)) k1 (by omega) f3 f4 (fun z => f2 5 z (by decide) (by decide) (by decide) (by decide) (by decide) (by decide)) (f2 8 0 (by decide) (by decide) (by decide) (by decide) (by decide) (by decide)) (f2 9 0 (by decide) (by decide) (by decide) (by decide) (by decide) (by decide)) (f2 10 0 (by decide) (by decide) (by decide) (by decide) (by decide) (by decide)) g2
  · exact kg_add k1' hn hs hk hp f3 f4 (fun z => f2 5 z (by decide) (by decide) (by decide) (by decide) (by decide) (by decide)) (f2 8 0 (by decide) (by decide) (by decide) (by decide) (by decide) (by decide)) (f2 9 0 (by decide) (by decide) (by decide) (by decide) (by decide) (by decide)) (f2 10 0 (by decide) (by decide) (by decide) (by decide) (by decide) (by decide))
theorem c_clear : f_X4_clear V b = (dv_u V b 4 0 0, 0) := by
  unfold f_X4_clear
  rw [bq]
theorem m_settled : f_X12_settled W a t = (f_X12_good (dv_u W a 33 0 0) a t) := by
  unfold f_X12_settled
  rw [bq, bq2]
/-- the floor has changed, nothing can be undone, and both answer -/
theorem RR_clear (h : RR A a V W) (f : cf A (fun i _ => i == 4) V V') (g : wf a (fun m => m == 2) W W') (hK : ∀ z, (47 ≤ z ∧ z < 65) ∨ (70 ≤ z ∧ z < 5680) → W' a 2 z = W a 2 z) (hf : flR (A 4) V' (W' a 2) 0) (ht : 0 ≤ t) : ∃ V2 W2, f_X11_answer (dv_u V' (A 15) 4 0 0) (A 0) t = (V2, t) ∧ f_X12_settled W' a t = (W2, t) ∧ RR A a V2 W2 := by
  have hA := h.1
  have F : cf A L_a V (dv_u V' (A 15) 4 0 0) := cf_t (cf_m f (fun i m hL => by
    by_cases e : i = 4
    · subst e; cases hL
    · simp [e])) (cf_u hA (by decide) rfl)
  have GW : wf a M_a W (dv_u W' a 33 0 0) := wf_t (wf_m g (fun m hM => by
    by_cases e : m = 2
    · subst e; cases hM
    · simp [e])) (wf_u rfl)
  have n4 : A 4 ≠ A 15 := inj_n hA (by decide) (by decide) (by decide)
  have R1 : RR A a (dv_u V' (A 15) 4 0 0) (dv_u W' a 33 0 0) := RR_act h F GW (fun z _ => by rw [u_b (inj_n hA (by decide) (by decide) (by decide))]; exact f 14 1 z (by decide) (by decide) rfl) (fun z hz => by rw [u_j (by decide)]; exact hK z hz) (flR_c hf (fun j c _ _ => (u_b n4).symm) (fun z _ => u_j (by decide))) (psR_0 u_e u_e)
  obtain ⟨V2, W2, e1, e2, r⟩ := RR_good (t := t) R1 ht
  exact ⟨V2, W2, e1, by rw [m_settled]; exact e2, r⟩
theorem L_carpet (h : RR A a V W) : ∃ V' W' y, f_X11_carpet V (A 0) s k p = (V', y) ∧ f_X12_carpet W a s k p = (W', y) ∧ RR A a V' W' := by
  obtain ⟨hA, ⟨⟨g0, -, -, -, -, -, -, -, -, -, g10⟩, -, -, gk⟩, ⟨⟨k1, k1'⟩, -, -⟩, -⟩ := id h
  have g1 := (gk 0 (by decide)).1
  have e7 : V (A 4) 7 0 = W a 2 69 := by have := k1.2.2.1; simp only [kf, Int.zero_add] at this; exact this
  have n0 : 0 ≤ V (A 4) 7 0 ∧ V (A 4) 7 0 ≤ 9 := k1'.1.1
  unfold f_X11_carpet f_X12_carpet f_X11_carpet_27
  rw [bq, g0, bq, g1, dv_bn2 q_canBe]
  by_cases e : (1 ≤ s ∧ s ≤ 12) ∧ (0 ≤ k ∧ k ≤ 3) ∧ 0 ≤ p ∧ p ≤ 9
  · rw [if_pos e, if_pos (by decide), dv_bn2 q_many]
    by_cases e9 : V (A 4) 7 0 < 9
    · obtain ⟨V1, W1, eV, eW, f1, f2, f3, f4, f5⟩ := RR_add h e.1 e.2.1 e.2.2 e9
      rw [dv_bn2 eV, if_neg (by omega), bq, f1 (A 0) 10 0 (inj_n hA (by decide) (by decide) (by decide)), g10, dv_bn2 c_clear, if_pos (by omega), dv_bn2 eW, dv_bn2 q_many, bq]
      have e69 : W1 a 2 69 = V (A 4) 7 0 + 1 := by have := f4.1.2.2.1; simp only [kf, Int.zero_add] at this; rw [← this, f5]
      obtain ⟨V2, W2, r1, r2, r3⟩ := RR_clear (t := V (A 4) 7 0) h (cf_b hA (by decide) f1 (fun _ => rfl)) (wf_b f2 rfl) (fun z hz => f3 z (by omega) (by omega)) f4 n0.1
      rw [e69, show V (A 4) 7 0 + 1 - 1 = V (A 4) 7 0 by omega, dv_bn2 r1, dv_bn2 r2]
      exact ⟨V2, W2, _, rfl, rfl, r3⟩
    · rw [dv_bn2 (c_add5 e.1 e.2.1 e.2.2 e9), if_pos (by decide), if_neg (by omega)]
      obtain ⟨V2, W2, r1, r2, r3⟩ := RR_bad (k := -5) h (Or.inr (Or.inr (Or.inr (Or.inl ⟨rfl, rfl, rfl⟩))))
      rw [dv_bn2 r1, dv_bn2 r2]
      exact ⟨V2, W2, _, rfl, rfl, r3⟩
  · rw [if_neg e, if_neg (fun q => q rfl), dv_bn2 (c_add0 e), if_pos (by decide)]
    obtain ⟨V2, W2, r1, r2, r3⟩ := RR_bad (k := -1) h (Or.inl ⟨rfl, rfl, rfl⟩)
    rw [dv_bn2 r1, dv_bn2 r2]
    exact ⟨V2, W2, _, rfl, rfl, r3⟩
end QSM
section QSN
variable {V V' V1 W W' W1 : dV} {a b c z t k s p x y : Int} {A : Nat → Int} {K K' : Int → Int} {φ φ' : Nat → Int → Int} {L : Nat → Nat → Bool} {M : Nat → Bool}
theorem ef_n (e : ef φ (kf K 0)) : φ 7 0 = K 69 ∧ φ 8 0 = K 67 ∧ φ 9 0 = K 68 ∧ φ 10 0 = K 27 ∧ φ 5 0 = K 28 ∧ φ 5 1 = K 65 ∧ φ 5 2 = K 66 ∧ ∀ c, 0 ≤ c → c < 9 → φ 0 c = K (29 + c) ∧ φ 1 c = K (38 + c) ∧ φ 2 c = K c ∧ φ 3 c = K (9 + c) ∧ φ 4 c = K (18 + c) := by
  obtain ⟨e1, ⟨e2, e3, e4⟩, e5, e6, e7, e8⟩ := e
  simp only [kf, Int.zero_add] at e1 e2 e3 e4 e5 e6 e7 e8
  rw [if_pos trivial] at e2
  rw [if_neg (by decide)] at e3 e4
  exact ⟨e5, e6, e7, e8, e2, e3, e4, e1⟩
theorem ef_of (h : φ 7 0 = K 69 ∧ φ 8 0 = K 67 ∧ φ 9 0 = K 68 ∧ φ 10 0 = K 27 ∧ φ 5 0 = K 28 ∧ φ 5 1 = K 65 ∧ φ 5 2 = K 66 ∧ ∀ c, 0 ≤ c → c < 9 → φ 0 c = K (29 + c) ∧ φ 1 c = K (38 + c) ∧ φ 2 c = K c ∧ φ 3 c = K (9 + c) ∧ φ 4 c = K (18 + c)) : ef φ (kf K 0) := by
  obtain ⟨e5, e6, e7, e8, e2, e3, e4, e1⟩ := h
  unfold ef
  simp only [kf, Int.zero_add]
  rw [if_pos trivial, if_neg (by decide), if_neg (by decide)]
  exact ⟨e1, ⟨e2, e3, e4⟩, e5, e6, e7, e8⟩
/-- the floor, number by number -/
theorem RR_n (h : RR A a V W) : kgf (V (A 4)) ∧ V (A 4) 7 0 = W a 2 69 ∧ V (A 4) 8 0 = W a 2 67 ∧ V (A 4) 9 0 = W a 2 68 ∧ V (A 4) 10 0 = W a 2 27 ∧ V (A 4) 5 0 = W a 2 28 ∧ V (A 4) 5 1 = W a 2 65 ∧ V (A 4) 5 2 = W a 2 66 ∧ ∀ c, 0 ≤ c → c < 9 → V (A 4) 0 c = W a 2 (29 + c) ∧ V (A 4) 1 c = W a 2 (38 + c) ∧ V (A 4) 2 c = W a 2 c ∧ V (A 4) 3 c = W a 2 (9 + c) ∧ V (A 4) 4 c = W a 2 (18 + c) := by
  obtain ⟨-, -, ⟨⟨k1, k2⟩, -, -⟩, -⟩ := h
  exact ⟨k2, ef_n k1⟩
/-- the class's objects, by name -/
theorem RR_G (h : RR A a V W) : V (A 0) 0 0 = A 1 ∧ V (A 1) 0 0 = A 4 ∧ V (A 0) 10 0 = A 15 ∧ V (A 0) 5 0 = A 9 ∧ V (A 0) 9 0 = A 13 ∧ V (A 13) 0 0 = A 14 := by
  obtain ⟨-, ⟨⟨g0, -, -, -, -, g5, -, -, -, g9, g10⟩, g13, -, gk⟩, -⟩ := h
  exact ⟨g0, (gk 0 (by decide)).1, g10, g5, g9, g13⟩
theorem qs_0 {f : Nat → Int} {n : Nat} (h : ∀ i, i < n → 0 ≤ f i) (h0 : qs f n ≤ 0) : (∀ i, i < n → f i = 0) := by
  have hp : ∀ m, m ≤ n → 0 ≤ qs f m := by
    intro m
    induction m with
    | zero => intro _; exact Int.le_refl 0
    | succ m ih => intro hm; unfold qs; have := ih (by omega); have := h m (by omega); omega
  have hq : ∀ m, m ≤ n → qs f m ≤ 0 → ∀ i, i < m → f i = 0 := by
    intro m
    induction m with
    | zero => intro _ _ i hi; omega
    | succ m ih =>
      intro hm h1 i hi
      unfold qs at h1
      have h2 := hp m (by omega)
      have h3 := h m (by omega)
      by_cases e : i = m
      · subst e; omega
      · exact ih (by omega) (by omega) i (by omega)
  exact hq n (Nat.le_refl n) h0
theorem kg_hall (g : kgf φ) (hn : ∀ c, 0 ≤ c → c < φ 7 0 → φ 3 c = -1) (hx : 1 ≤ x ∧ x ≤ 12) (hy : 1 ≤ y ∧ y ≤ 12) (h : ∀ j c, j ≠ 8 → j ≠ 9 → φ' j c = φ j c) (h8 : φ' 8 0 = x) (h9 : φ' 9 0 = y) : kgf φ' := by
  obtain ⟨⟨b7, b8, b9, bc⟩, gd, gs, gl, gw, gp, gy, gm, gz⟩ := g
  have e := fun j c (n8 : j ≠ 8) (n9 : j ≠ 9) => h j c n8 n9
  have e7 := e 7 0 (by decide) (by decide)
  refine ⟨⟨by rw [e7]; exact b7, by omega, by omega, fun c c0 c1 => ?_⟩, fun c d px py c0 c1 d0 d1 kc kd => ?_, fun c c0 c1 => ?_, fun c c0 c1 hx => ?_, by omega, by rw [e 10 0 (by decide) (by decide)]; exact gp, by rw [e 5 0 (by decide) (by decide)]; exact gy, by rw [e 5 1 (by decide) (by decide)]; exact gm, by rw [e 5 2 (by decide) (by decide)]; exact gz⟩
  · rw [e 0 c (by decide) (by decide), e 3 c (by decide) (by decide), e 4 c (by decide) (by decide)]; exact bc c c0 (by omega)
  · have q := kc.1
    rw [e 3 c (by decide) (by decide)] at q
    exact absurd (hn c c0 (by omega)) q
  · rw [e 0 c (by decide) (by decide), e 1 c (by decide) (by decide), e 2 c (by decide) (by decide)]; exact gs c c0 (by omega)
  · rw [e 3 c (by decide) (by decide)] at hx
    exact absurd (hn c c0 (by omega)) hx
theorem L_hall (h : RR A a V W) : ∃ V' W' u, f_X11_hall V (A 0) x y = (V', u) ∧ f_X12_hall W a x y = (W', u) ∧ RR A a V' W' := by
  have hA := h.1
  obtain ⟨g0, g1, g10, -⟩ := RR_G h
  obtain ⟨kk, e7, e8, e9, e10, e50, e51, e52, ec⟩ := RR_n h
  have n7 := kk.1.1
  have bad : ¬ ((1 ≤ x ∧ x ≤ 12) ∧ 1 ≤ y ∧ y ≤ 12) → ∃ V' W' u, f_X11_hall V (A 0) x y = (V', u) ∧ f_X12_hall W a x y = (W', u) ∧ RR A a V' W' := by
    intro hn
    obtain ⟨V2, W2, r1, r2, r3⟩ := RR_bad (k := -1) h (Or.inl ⟨rfl, rfl, rfl⟩)
    refine ⟨V2, W2, -1, ?_, ?_, r3⟩
    · have e : f_X11_hall_22 V (A 0) = (V2, -1) := by unfold f_X11_hall_22; rw [dv_bn2 r1]
      unfold f_X11_hall
      by_cases x1 : x < 1
      · rw [if_pos x1, e]
      · rw [if_neg x1]
        by_cases x2 : 12 < x
        · rw [if_pos x2, e]
        · rw [if_neg x2]
          by_cases y1 : y < 1
          · rw [if_pos y1, e]
          · rw [if_neg y1, if_neg (by omega), e]
    · have e : f_X12_hall_14 W a = (W2, -1) := by unfold f_X12_hall_14; rw [dv_bn2 r2]
      unfold f_X12_hall
      rw [dv_bn2 q_isSide]
      by_cases hx : 1 ≤ x ∧ x ≤ 12
      · rw [if_pos hx, if_neg (by decide), dv_bn2 q_isSide, if_neg (fun q => hn ⟨hx, q⟩), if_neg (fun q => q rfl), e]
      · rw [if_neg hx, if_pos rfl, e]
  by_cases hxy : (1 ≤ x ∧ x ≤ 12) ∧ 1 ≤ y ∧ y ≤ 12
  case neg => exact bad hxy
  obtain ⟨hx, hy⟩ := hxy
  have hq := ef_laid (ψ := kf (W a 2) 0) (h.2.2.1.1.1) kk.1
  have hlV : f_X1_laidCarpets V (A 4) = (qs (fun i => if V (A 4) 3 (i : Int) ≠ -1 then 1 else 0) (V (A 4) 7 0).toNat, ()) := q_laidCarpets n7.1 n7.2
  by_cases hl : qs (fun i => if V (A 4) 3 (i : Int) ≠ -1 then 1 else 0) (V (A 4) 7 0).toNat ≤ 0
  case neg =>
    obtain ⟨V2, W2, r1, r2, r3⟩ := RR_bad (k := -3) h (Or.inr (Or.inr (Or.inl ⟨rfl, rfl, rfl⟩)))
    refine ⟨V2, W2, -3, ?_, ?_, r3⟩
    · unfold f_X11_hall
      rw [if_neg (by omega), if_neg (by omega), if_neg (by omega), if_pos (by omega), bq, g0, bq, g1, dv_bn2 hlV, if_neg hl, dv_bn2 r1]
    · unfold f_X12_hall
      rw [dv_bn2 q_isSide, if_pos hx, if_neg (by decide), dv_bn2 q_isSide, if_pos hy, if_pos (by decide), dv_bn2 q_laidMany2, if_neg (by rw [← hq]; exact hl), dv_bn2 r2]
  have hu : ∀ (U : dV) (j : Nat) (i v : Int), dv_u U (A 4) j i v (A 0) 0 0 = U (A 0) 0 0 := fun U j i v => u_b (inj_n hA (by decide) (by decide) (by decide))
  have hu1 : ∀ (U : dV) (j : Nat) (i v : Int), dv_u U (A 4) j i v (A 1) 0 0 = U (A 1) 0 0 := fun U j i v => u_b (inj_n hA (by decide) (by decide) (by decide))
  have hu10 : ∀ (U : dV) (j : Nat) (i v : Int), dv_u U (A 4) j i v (A 0) 10 0 = U (A 0) 10 0 := fun U j i v => u_b (inj_n hA (by decide) (by decide) (by decide))
  have eV : ∀ Z, f_X11_answer (dv_u (dv_u (dv_u V (A 4) 8 0 x) (A 4) 9 0 y) (A 15) 4 0 0) (A 0) (x * y) = Z → f_X11_hall V (A 0) x y = Z := by
    intro Z hZ
    unfold f_X11_hall
    rw [if_neg (by omega), if_neg (by omega), if_neg (by omega), if_pos (by omega), bq, g0, bq, g1, dv_bn2 hlV, if_pos hl]
    simp only [bq, g0, g1, hu, hu1, hu10, g10]
    rw [dv_bn2 c_clear, bq2, hZ]
  have eW : ∀ Z, f_X12_settled (dv_u (dv_u W a 2 67 x) a 2 68 y) a (x * y) = Z → f_X12_hall W a x y = Z := by
    intro Z hZ
    unfold f_X12_hall
    rw [dv_bn2 q_isSide, if_pos hx, if_neg (by decide), dv_bn2 q_isSide, if_pos hy, if_pos (by decide), dv_bn2 q_laidMany2, if_pos (by rw [← hq]; exact hl), bq, bq, bq, bq2, hZ]
  have hz : ∀ c, 0 ≤ c → c < V (A 4) 7 0 → V (A 4) 3 c = -1 := by
    intro c c0 c1
    have := qs_0 (fun i _ => by split <;> omega) hl c.toNat (by omega)
    have hcc : ((c.toNat : Nat) : Int) = c := by omega
    rw [hcc] at this
    by_cases q : V (A 4) 3 c = -1
    · exact q
    · rw [if_pos q] at this; omega
  have f8 : dv_u (dv_u V (A 4) 8 0 x) (A 4) 9 0 y (A 4) 8 0 = x := by rw [u_j (by decide), u_e]
  have f9 : dv_u (dv_u V (A 4) 8 0 x) (A 4) 9 0 y (A 4) 9 0 = y := u_e
  have fj : ∀ (j : Nat) (c : Int), j ≠ 8 → j ≠ 9 → dv_u (dv_u V (A 4) 8 0 x) (A 4) 9 0 y (A 4) j c = V (A 4) j c := fun j c n8 n9 => by rw [u_j n9, u_j n8]
  have fb : ∀ b m z, b ≠ A 4 → dv_u (dv_u V (A 4) 8 0 x) (A 4) 9 0 y b m z = V b m z := fun b m z hb => by rw [u_b hb, u_b hb]
  have w2 : ∀ z, dv_u (dv_u W a 2 67 x) a 2 68 y a 2 z = if z = 68 then y else if z = 67 then x else W a 2 z := fun z => by rw [u_if, u_if]
  have wb : ∀ b m z, ¬ (b = a ∧ m = 2) → dv_u (dv_u W a 2 67 x) a 2 68 y b m z = W b m z := fun b m z hb => by
    by_cases q : b = a
    · have q2 : m ≠ 2 := fun e => hb ⟨q, e⟩
      rw [u_j q2, u_j q2]
    · rw [u_b q, u_b q]
  generalize dv_u (dv_u V (A 4) 8 0 x) (A 4) 9 0 y = V1 at f8 f9 fj fb eV
  generalize dv_u (dv_u W a 2 67 x) a 2 68 y = W1 at w2 wb eW
  have wn : ∀ z, z ≠ 67 → z ≠ 68 → W1 a 2 z = W a 2 z := fun z n1 n2 => by rw [w2, if_neg n2, if_neg n1]
  have R : flR (A 4) V1 (W1 a 2) 0 := by
    refine ⟨ef_of ⟨?_, ?_, ?_, ?_, ?_, ?_, ?_, fun c c0 c9 => ?_⟩, kg_hall kk hz hx hy fj f8 f9⟩
    · rw [fj 7 0 (by decide) (by decide), wn 69 (by decide) (by decide), e7]
    · rw [f8, w2, if_neg (by decide), if_pos rfl]
    · rw [f9, w2, if_pos rfl]
    · rw [fj 10 0 (by decide) (by decide), wn 27 (by decide) (by decide), e10]
    · rw [fj 5 0 (by decide) (by decide), wn 28 (by decide) (by decide), e50]
    · rw [fj 5 1 (by decide) (by decide), wn 65 (by decide) (by decide), e51]
    · rw [fj 5 2 (by decide) (by decide), wn 66 (by decide) (by decide), e52]
    · rw [fj 0 c (by decide) (by decide), fj 1 c (by decide) (by decide), fj 2 c (by decide) (by decide), fj 3 c (by decide) (by decide), fj 4 c (by decide) (by decide), wn _ (by omega) (by omega), wn _ (by omega) (by omega), wn _ (by omega) (by omega), wn _ (by omega) (by omega), wn _ (by omega) (by omega)]
      exact ec c c0 c9
  have ht : 0 ≤ x * y := Int.mul_nonneg (by omega) (by omega)
  obtain ⟨V2, W2, r1, r2, r3⟩ := RR_clear (t := x * y) h (cf_b hA (by decide) fb (fun _ => rfl)) (wf_b wb rfl) (fun z hz => wn z (by omega) (by omega)) R ht
  exact ⟨V2, W2, _, eV _ r1, eW _ r2, r3⟩
theorem c_most : f_X11_mostOfTerm V x = (if x = 0 then 999 else if x = 1 then 10 else 9, ()) := by
  unfold f_X11_mostOfTerm
  by_cases e : x = 0
  · rw [if_neg (fun q => q e), if_pos e]
  · rw [if_pos e, if_neg e]
    by_cases e1 : x = 1
    · rw [if_neg (fun q => q e1), if_pos e1]
    · rw [if_pos e1, if_neg e1]
theorem m_isTerm : f_X12_isTerm W x y = (if (0 ≤ x ∧ x ≤ 2) ∧ 0 ≤ y ∧ y ≤ (if x = 0 then 999 else if x = 1 then 10 else 9) then 1 else 0, ()) := by
  unfold f_X12_isTerm
  by_cases e : x = 0
  · subst e; rw [if_pos rfl, dv_bn2 q_lies]
    by_cases h : 0 ≤ y ∧ y ≤ 999
    · rw [if_pos h, if_pos ⟨by omega, h.1, by rw [if_pos rfl]; exact h.2⟩]
    · rw [if_neg h, if_neg (fun q => h ⟨q.2.1, by have := q.2.2; rw [if_pos rfl] at this; exact this⟩)]
  · rw [if_neg e]
    by_cases e1 : x = 1
    · subst e1; rw [if_pos rfl, dv_bn2 q_lies]
      by_cases h : 0 ≤ y ∧ y ≤ 10
      · rw [if_pos h, if_pos ⟨by omega, h.1, by rw [if_neg (by decide), if_pos rfl]; exact h.2⟩]
      · rw [if_neg h, if_neg (fun q => h ⟨q.2.1, by have := q.2.2; rw [if_neg (by decide), if_pos rfl] at this; exact this⟩)]
    · rw [if_neg e1]
      by_cases e2 : x = 2
      · subst e2; rw [if_pos rfl, dv_bn2 q_lies]
        by_cases h : 0 ≤ y ∧ y ≤ 9
        · rw [if_pos h, if_pos ⟨by omega, h.1, by rw [if_neg (by decide), if_neg (by decide)]; exact h.2⟩]
        · rw [if_neg h, if_neg (fun q => h ⟨q.2.1, by have := q.2.2; rw [if_neg (by decide), if_neg (by decide)] at this; exact this⟩)]
      · rw [if_neg e2, if_neg (fun q => by omega)]
theorem m_termAt (h : 0 ≤ x ∧ x ≤ 2) : f_X12_termAt W x = (if x = 0 then 28 else 64 + x, ()) := by
  unfold f_X12_termAt
  by_cases e : x = 0
  · rw [if_neg (fun q => q e), if_pos e]
  · rw [if_pos e, if_neg e]
    by_cases e1 : x = 1
    · rw [if_neg (fun q => q e1), e1]; rfl
    · rw [if_pos e1, show x = 2 by omega]; rfl
theorem L_terms (h : RR A a V W) : ∃ V' W' u, f_X11_terms V (A 0) x y = (V', u) ∧ f_X12_terms W a x y = (W', u) ∧ RR A a V' W' := by
  have hA := h.1
  obtain ⟨g0, g1, g10, -⟩ := RR_G h
  obtain ⟨kk, e7, e8, e9, e10, e50, e51, e52, ec⟩ := RR_n h
  by_cases hx : (0 ≤ x ∧ x ≤ 2) ∧ 0 ≤ y ∧ y ≤ (if x = 0 then 999 else if x = 1 then 10 else 9)
  case neg =>
    obtain ⟨V2, W2, r1, r2, r3⟩ := RR_bad (k := -1) h (Or.inl ⟨rfl, rfl, rfl⟩)
    refine ⟨V2, W2, -1, ?_, ?_, r3⟩
    · have e : f_X11_terms_21 V (A 0) = (V2, -1) := by unfold f_X11_terms_21; rw [dv_bn2 r1]
      unfold f_X11_terms
      by_cases x1 : x < 0
      · rw [if_pos x1, e]
      · rw [if_neg x1]
        by_cases x2 : 3 ≤ x
        · rw [if_pos x2, e]
        · rw [if_neg x2]
          by_cases y1 : y < 0
          · rw [if_pos y1, e]
          · rw [if_neg y1, dv_bn2 c_most, if_neg (fun q => hx ⟨by omega, by omega, q⟩), e]
    · unfold f_X12_terms
      rw [dv_bn2 m_isTerm, if_neg hx, if_neg (fun q => q rfl), dv_bn2 r2]
  case pos =>
    have eV : ∀ Z, f_X11_answer (dv_u (dv_u V (A 4) 5 x y) (A 15) 4 0 0) (A 0) (V (A 4) 5 x) = Z → f_X11_terms V (A 0) x y = Z := by
      intro Z hZ
      unfold f_X11_terms
      rw [if_neg (by omega), if_neg (by omega), if_neg (by omega), dv_bn2 c_most, if_pos hx.2.2]
      simp only [bq, g0, g1]
      rw [u_b (inj_n hA (by decide) (by decide) (by decide)), g10, dv_bn2 c_clear, bq2, hZ]
    have eW : ∀ Z, f_X12_settled (dv_u W a 2 (if x = 0 then 28 else 64 + x) y) a (W a 2 (if x = 0 then 28 else 64 + x)) = Z → f_X12_terms W a x y = Z := by
      intro Z hZ
      unfold f_X12_terms
      rw [dv_bn2 m_isTerm, if_pos hx, if_pos (by decide), dv_bn2 (m_termAt hx.1), bq, dv_bn2 (m_termAt hx.1), bq, bq2, hZ]
    have w2 : ∀ z, dv_u W a 2 (if x = 0 then 28 else 64 + x) y a 2 z = if z = (if x = 0 then 28 else 64 + x) then y else W a 2 z := fun z => u_if
    have f5 : ∀ c, dv_u V (A 4) 5 x y (A 4) 5 c = if c = x then y else V (A 4) 5 c := fun c => u_if
    have fj : ∀ (j : Nat) (c : Int), j ≠ 5 → dv_u V (A 4) 5 x y (A 4) j c = V (A 4) j c := fun j c n => u_j n
    have fb : ∀ b m z, b ≠ A 4 → dv_u V (A 4) 5 x y b m z = V b m z := fun b m z hb => u_b hb
    have wb : ∀ b m z, ¬ (b = a ∧ m = 2) → dv_u W a 2 (if x = 0 then 28 else 64 + x) y b m z = W b m z := fun b m z hb => by
      by_cases q : b = a
      · exact u_j (fun e => hb ⟨q, e⟩)
      · exact u_b q
    have eq : V (A 4) 5 x = W a 2 (if x = 0 then 28 else 64 + x) := by
      have : x = 0 ∨ x = 1 ∨ x = 2 := by omega
      rcases this with rfl | rfl | rfl
      · exact e50
      · exact e51
      · exact e52
    have ht : 0 ≤ V (A 4) 5 x := by
      obtain ⟨-, -, -, -, -, -, q0, q1, q2⟩ := kk
      have : x = 0 ∨ x = 1 ∨ x = 2 := by omega
      rcases this with rfl | rfl | rfl
      · exact q0.1
      · exact q1.1
      · exact q2.1
    have hb := hx.2
    generalize dv_u V (A 4) 5 x y = V1 at f5 fj fb eV
    generalize dv_u W a 2 (if x = 0 then 28 else 64 + x) y = W1 at w2 wb eW
    have hK : ∀ z, z ≠ 28 → z ≠ 65 → z ≠ 66 → W1 a 2 z = W a 2 z := fun z n0 n1 n2 => by
      rw [w2, if_neg]
      by_cases e : x = 0
      · rw [if_pos e]; exact n0
      · rw [if_neg e]; omega
    have k28 : W1 a 2 28 = if x = 0 then y else W a 2 28 := by
      rw [w2]
      by_cases e : x = 0
      · rw [if_pos e, if_pos rfl, if_pos e]
      · rw [if_neg e, if_neg (by omega), if_neg e]
    have k6 : ∀ j, 1 ≤ j → j ≤ 2 → W1 a 2 (64 + j) = if x = j then y else W a 2 (64 + j) := fun j j1 j2 => by
      rw [w2]
      by_cases e : x = 0
      · rw [if_pos e, if_neg (by omega), if_neg (by omega)]
      · rw [if_neg e]
        by_cases e1 : x = j
        · rw [if_pos (by omega), if_pos e1]
        · rw [if_neg (by omega), if_neg e1]
    have sw : ∀ (j : Int) (u v : Int), (if j = x then u else v) = if x = j then u else v := fun j u v => by
      by_cases e : x = j
      · rw [if_pos e, if_pos e.symm]
      · rw [if_neg e, if_neg (Ne.symm e)]
    have R : flR (A 4) V1 (W1 a 2) 0 := by
      refine ⟨ef_of ⟨?_, ?_, ?_, ?_, ?_, ?_, ?_, fun c c0 c9 => ?_⟩, ?_⟩
      · rw [fj 7 0 (by decide), hK 69 (by decide) (by decide) (by decide), e7]
      · rw [fj 8 0 (by decide), hK 67 (by decide) (by decide) (by decide), e8]
      · rw [fj 9 0 (by decide), hK 68 (by decide) (by decide) (by decide), e9]
      · rw [fj 10 0 (by decide), hK 27 (by decide) (by decide) (by decide), e10]
      · rw [f5, k28, sw, e50]
      · rw [f5, sw, e51]; exact (k6 1 (by decide) (by decide)).symm
      · rw [f5, sw, e52]; exact (k6 2 (by decide) (by decide)).symm
      · rw [fj 0 c (by decide), fj 1 c (by decide), fj 2 c (by decide), fj 3 c (by decide), fj 4 c (by decide), hK _ (by omega) (by omega) (by omega), hK _ (by omega) (by omega) (by omega), hK _ (by omega) (by omega) (by omega), hK _ (by omega) (by omega) (by omega), hK _ (by omega) (by omega) (by omega)]
        exact ec c c0 c9
      · obtain ⟨⟨b7, b8, b9, bc⟩, gd, gs, gl, gw, gp, gy, gm, gz⟩ := kk
        have hc : ∀ c px py, cov (V1 (A 4)) c px py → cov (V (A 4)) c px py := fun c px py => by
          unfold cov
          rw [fj 0 c (by decide), fj 3 c (by decide), fj 4 c (by decide)]
          exact id
        refine ⟨⟨by rw [fj 7 0 (by decide)]; exact b7, by rw [fj 8 0 (by decide)]; exact b8, by rw [fj 9 0 (by decide)]; exact b9, fun c c0 c1 => ?_⟩, fun c d px py c0 c1 d0 d1 kc kd => ?_, fun c c0 c1 => ?_, fun c c0 c1 hx => ?_, by rw [fj 8 0 (by decide), fj 9 0 (by decide)]; exact gw, by rw [fj 10 0 (by decide)]; exact gp, ?_, ?_, ?_⟩
        · rw [fj 7 0 (by decide)] at c1
          rw [fj 0 c (by decide), fj 3 c (by decide), fj 4 c (by decide)]; exact bc c c0 c1
        · rw [fj 7 0 (by decide)] at c1 d1
          exact gd c d px py c0 c1 d0 d1 (hc _ _ _ kc) (hc _ _ _ kd)
        · rw [fj 7 0 (by decide)] at c1
          rw [fj 0 c (by decide), fj 1 c (by decide), fj 2 c (by decide)]; exact gs c c0 c1
        · rw [fj 7 0 (by decide)] at c1
          rw [fj 3 c (by decide)] at hx
          rw [fj 0 c (by decide), fj 3 c (by decide), fj 4 c (by decide), fj 8 0 (by decide), fj 9 0 (by decide)]; exact gl c c0 c1 hx
        · rw [f5, sw]
          by_cases e : x = 0
          · rw [if_pos e]; rw [if_pos e] at hb; exact hb
          · rw [if_neg e]; exact gy
        · rw [f5, sw]
          by_cases e : x = 1
          · rw [if_pos e]; rw [if_neg (by omega), if_pos e] at hb; exact hb
          · rw [if_neg e]; exact gm
        · rw [f5, sw]
          by_cases e : x = 2
          · rw [if_pos e]; rw [if_neg (by omega), if_neg (by omega)] at hb; exact hb
          · rw [if_neg e]; exact gz
    obtain ⟨V2, W2, r1, r2, r3⟩ := RR_clear (t := V (A 4) 5 x) h (cf_b hA (by decide) fb (fun _ => rfl)) (wf_b wb rfl) (fun z hz => hK z (by omega) (by omega) (by omega)) R ht
    exact ⟨V2, W2, _, eV _ r1, eW _ (by rw [← eq]; exact r2), r3⟩
end QSN
section QSO
theorem by_w {w : BitVec 32} {s : Nat} (hs : s ≤ 24) : ((w >>> s) &&& 255#32).toInt = ((w >>> s).toNat % 256 : Nat) ∧ ((w.sshiftRight s).signExtend 8).toNat = (w >>> s).toNat % 256 := by
  constructor
  · have h : ((w >>> s) &&& 255#32).toNat = (w >>> s).toNat % 256 := by
      rw [BitVec.toNat_and]
      exact Nat.and_two_pow_sub_one_eq_mod _ 8
    rw [BitVec.toInt_eq_toNat_cond, h, if_pos (by omega)]
  · have h : (w.sshiftRight s).signExtend 8 = (w >>> s).setWidth 8 := by
      apply BitVec.eq_of_getLsbD_eq
      intro i hi
      rw [BitVec.getLsbD_signExtend, BitVec.getLsbD_setWidth, BitVec.getLsbD_sshiftRight, BitVec.getLsbD_ushiftRight, if_pos (by omega), if_pos (by omega)]
      rw [show decide (32 ≤ i) = false from decide_eq_false (by omega), Bool.not_false, Bool.true_and]
    rw [h, BitVec.toNat_setWidth]
theorem by_b {B : BitVec 8} {n : Nat} (h : B.toNat = n) : byr (n : Int) B.toInt := by
  have hl := B.isLt
  refine ⟨by omega, ?_⟩
  rw [BitVec.toInt_eq_toNat_cond, h]
  by_cases e : 2 * n < 2 ^ 8
  · rw [if_pos e, if_pos (by omega)]
  · rw [if_neg e, if_neg (by omega)]
    rfl
theorem i2b2 {x : Int} : dv_i2b (dv_i2b x) = (Int32.ofInt x).toInt8.toInt := by
  unfold dv_i2b
  rw [Int32.ofInt_toInt, Int8.toInt8_toInt32, Int8.toInt_toInt32]
theorem by_r0 {x : Int} : byr (dv_and (dv_ushr x 0) 255) (dv_i2b (dv_i2b (dv_shr x 0))) := by
  have h := by_w (w := (Int32.ofInt x).toBitVec) (s := 0) (by decide)
  have e1 : dv_and (dv_ushr x 0) 255 = (((Int32.ofInt x).toBitVec >>> 0) &&& 255#32).toInt := by
    unfold dv_and dv_ushr
    rw [Int32.ofInt_toInt]
    rfl
  have e2 : dv_i2b (dv_i2b (dv_shr x 0)) = (((Int32.ofInt x).toBitVec.sshiftRight 0).signExtend 8).toInt := by
    rw [i2b2]
    unfold dv_shr
    rw [Int32.ofInt_toInt]
    rfl
  rw [e1, e2, h.1]
  exact by_b h.2
theorem by_r8 {x : Int} : byr (dv_and (dv_ushr x 8) 255) (dv_i2b (dv_i2b (dv_shr x 8))) := by
  have h := by_w (w := (Int32.ofInt x).toBitVec) (s := 8) (by decide)
  have e1 : dv_and (dv_ushr x 8) 255 = (((Int32.ofInt x).toBitVec >>> 8) &&& 255#32).toInt := by
    unfold dv_and dv_ushr
    rw [Int32.ofInt_toInt]
    rfl
  have e2 : dv_i2b (dv_i2b (dv_shr x 8)) = (((Int32.ofInt x).toBitVec.sshiftRight 8).signExtend 8).toInt := by
    rw [i2b2]
    unfold dv_shr
    rw [Int32.ofInt_toInt]
    rfl
  rw [e1, e2, h.1]
  exact by_b h.2
theorem by_r16 {x : Int} : byr (dv_and (dv_ushr x 16) 255) (dv_i2b (dv_i2b (dv_shr x 16))) := by
  have h := by_w (w := (Int32.ofInt x).toBitVec) (s := 16) (by decide)
  have e1 : dv_and (dv_ushr x 16) 255 = (((Int32.ofInt x).toBitVec >>> 16) &&& 255#32).toInt := by
    unfold dv_and dv_ushr
    rw [Int32.ofInt_toInt]
    rfl
  have e2 : dv_i2b (dv_i2b (dv_shr x 16)) = (((Int32.ofInt x).toBitVec.sshiftRight 16).signExtend 8).toInt := by
    rw [i2b2]
    unfold dv_shr
    rw [Int32.ofInt_toInt]
    rfl
  rw [e1, e2, h.1]
  exact by_b h.2
theorem by_r24 {x : Int} : byr (dv_and (dv_ushr x 24) 255) (dv_i2b (dv_i2b (dv_shr x 24))) := by
  have h := by_w (w := (Int32.ofInt x).toBitVec) (s := 24) (by decide)
  have e1 : dv_and (dv_ushr x 24) 255 = (((Int32.ofInt x).toBitVec >>> 24) &&& 255#32).toInt := by
    unfold dv_and dv_ushr
    rw [Int32.ofInt_toInt]
    rfl
  have e2 : dv_i2b (dv_i2b (dv_shr x 24)) = (((Int32.ofInt x).toBitVec.sshiftRight 24).signExtend 8).toInt := by
    rw [i2b2]
    unfold dv_shr
    rw [Int32.ofInt_toInt]
    rfl
  rw [e1, e2, h.1]
  exact by_b h.2
end QSO
section QSP
variable {V V' V1 W W' W1 : dV} {a b c z t k s p x y n L i j : Int} {A : Nat → Int} {K K' : Int → Int} {φ φ' : Nat → Int → Int}
/-- the tape has changed -/
theorem RR_tp (h : RR A a V W) (f : cf A (fun i _ => i == 9) V V') (g : wf a (fun m => m == 11 || m == 12 || m == 13) W W') (ht : tpR A a V' W') : RR A a V' W' := by
  obtain ⟨h1, h2, h3, h4, -, h6, h7, h8, h9, h10⟩ := h
  exact ⟨h1, G_c h2 (cf_ag f rfl), stR_c (by decide) h3 (cf_ag f rfl) (fun z _ => g 2 _ rfl), imR_c h4 (cf_ag f rfl) (fun z => g 3 z rfl) (fun z => g 4 z rfl), ht, psR_c h6 (cf_ag f rfl) (fun z => g 31 z rfl) (g 33 0 rfl), ppR_c h7 (cf_ag f rfl) (fun z => g 54 z rfl) (g 55 0 rfl), miR_c h8 (cf_ag f rfl) (g 0 0 rfl) (fun z => g 1 z rfl), taR_c h9 (cf_ag f rfl) (g 14 0 rfl) (g 6 0 rfl) (g 47 0 rfl), rdR_c h10 (fun z => f 10 1 z (by decide) (by decide) rfl) (fun z _ => f 14 1 z (by decide) (by decide) rfl) (fun z => g 7 z rfl) (fun z => g 17 z rfl)⟩
theorem L_end (h : RR A a V W) : ∃ V' W' u, f_X11_end V (A 0) x = (V', u) ∧ f_X12_end W a x = (W', u) ∧ RR A a V' W' := by
  have hA := h.1
  obtain ⟨g0, g1, g10, g5, -⟩ := RR_G h
  obtain ⟨-, -, -, -, ⟨t1, t2, t3⟩, -⟩ := id h
  by_cases e : 0 ≤ x ∧ x ≤ W a 13 0
  · refine ⟨dv_u V (A 9) 1 0 x, dv_u W a 13 0 x, x, ?_, ?_, RR_tp h (cf_u hA (by decide) rfl) (wf_u rfl) ⟨by rw [u_e, u_e], by rw [u_e]; omega, fun z z0 z1 => ?_⟩⟩
    · unfold f_X11_end
      rw [if_neg (by omega), bq, g5, bq, t1, if_pos e.2, bq, bq]
    · unfold f_X12_end
      rw [bq, dv_bn2 q_lies, if_pos e, if_pos (by decide), bq]
    · rw [u_e] at z1
      rw [u_j (by decide), u_j (by decide)]
      exact t3 z z0 (by omega)
  · refine ⟨V, W, -1, ?_, ?_, h⟩
    · unfold f_X11_end
      by_cases e1 : x < 0
      · rw [if_pos e1]
      · rw [if_neg e1, bq, g5, bq, t1, if_neg (by omega)]
    · unfold f_X12_end
      rw [bq, dv_bn2 q_lies, if_neg e, if_neg (fun q => q rfl)]
-- twenty bytes
def byc (x j : Int) : Int := dv_and (dv_ushr x (24 - 8 * j)) 255
def bym (x j : Int) : Int := dv_i2b (dv_i2b (dv_shr x (24 - 8 * j)))
theorem byc_r (j0 : 0 ≤ j) (j3 : j ≤ 3) : byr (byc x j) (bym x j) := by
  unfold byc bym
  have : j = 0 ∨ j = 1 ∨ j = 2 ∨ j = 3 := by omega
  rcases this with rfl | rfl | rfl | rfl
  · exact by_r24
  · exact by_r16
  · exact by_r8
  · exact by_r0
theorem c_four (hn : V t 1 0 + 4 ≤ 400) : ∃ V', f_X9_addFour V t x = (V', 0) ∧ (∀ b m z, ¬ (b = t ∧ m ≤ 1) → V' b m z = V b m z) ∧ V' t 1 0 = V t 1 0 + 4 ∧ (∀ z, ¬ (V t 1 0 ≤ z ∧ z < V t 1 0 + 4) → V' t 0 z = V t 0 z) ∧ ∀ j, 0 ≤ j → j < 4 → V' t 0 (V t 1 0 + j) = byc x j := by
  have st : ∀ (U : dV) (j : Int), 0 ≤ j → U t 1 0 < 400 → f_X9_addFour_3b (U, t, x, j) = Sum.inl (dv_u (dv_u U t 0 (U t 1 0) (dv_and (dv_ushr x j) 255)) t 1 0 (U t 1 0 + 1), t, x, j - 8) := by
    intro U j j0 h4
    rw [f_X9_addFour_3e]
    unfold f_X9_addFour_3c
    rw [if_neg (by omega), bq, if_neg (by omega), bq, bq, bq, bq, bq, u_j (by decide), bq, bq, bq]
    rfl
  -- after j bytes
  have go : ∀ m : Nat, m ≤ 4 → ∃ U : dV, dv_lp f_X9_addFour_3b (V, t, x, 24) = dv_lp f_X9_addFour_3b (U, t, x, 24 - 8 * (m : Int)) ∧ (∀ b m' z, ¬ (b = t ∧ m' ≤ 1) → U b m' z = V b m' z) ∧ U t 1 0 = V t 1 0 + m ∧ (∀ z, ¬ (V t 1 0 ≤ z ∧ z < V t 1 0 + (m : Int)) → U t 0 z = V t 0 z) ∧ ∀ j, 0 ≤ j → j < (m : Int) → U t 0 (V t 1 0 + j) = byc x j := by
    intro m
    induction m with
    | zero => intro _; exact ⟨V, rfl, fun _ _ _ _ => rfl, by omega, fun _ _ => rfl, fun j j0 j1 => absurd j1 (by omega)⟩
    | succ m ih =>
      intro hm
      obtain ⟨U, e1, e2, e3, e4, e5⟩ := ih (by omega)
      refine ⟨dv_u (dv_u U t 0 (U t 1 0) (dv_and (dv_ushr x (24 - 8 * (m : Int))) 255)) t 1 0 (U t 1 0 + 1), ?_, fun b m' z hb => ?_, by rw [u_e, e3]; omega, fun z hz => ?_, fun j j0 j1 => ?_⟩
      · rw [e1, dv_lp_s (st U _ (by omega) (by omega)), show 24 - 8 * (m : Int) - 8 = 24 - 8 * ((m + 1 : Nat) : Int) by omega]
      · by_cases q : b = t
        · have q1 : ¬ m' ≤ 1 := fun w => hb ⟨q, w⟩
          rw [u_j (by omega), u_j (by omega)]; exact e2 b m' z hb
        · rw [u_b q, u_b q]; exact e2 b m' z hb
      · rw [u_j (by decide), u_i (by omega)]; exact e4 z (by omega)
      · rw [u_j (by decide)]
        by_cases q : j = (m : Int)
        · rw [q, ← e3, u_e]; rfl
        · rw [u_i (by omega)]; exact e5 j j0 (by omega)
  obtain ⟨U, e1, e2, e3, e4, e5⟩ := go 4 (Nat.le_refl 4)
  refine ⟨U, ?_, e2, e3, e4, e5⟩
  unfold f_X9_addFour
  rw [e1]
  refine dv_lp_e ?_
  rw [f_X9_addFour_3e]
  unfold f_X9_addFour_3c
  rw [if_pos (by decide)]
theorem m_feed {y1 y2 y3 y4 : Int} (hn : W a 13 0 + 20 ≤ 400) : ∃ W', f_X12_feed W a x y1 y2 y3 y4 = (W', W a 13 0 + 20) ∧ wf a (fun m => m == 11 || m == 12 || m == 13) W W' ∧ W' a 13 0 = W a 13 0 + 20 ∧ (∀ z, ¬ (W a 13 0 ≤ z ∧ z < W a 13 0 + 20) → W' a 11 z = W a 11 z) ∧ ∀ k, 0 ≤ k → k < 20 → W' a 11 (W a 13 0 + k) = bym (if k / 4 = 0 then x else if k / 4 = 1 then y1 else if k / 4 = 2 then y2 else if k / 4 = 3 then y3 else y4) (k % 4) := by
  obtain ⟨W1, e1, g1, f5⟩ : ∃ W1, (∀ Z, dv_lp f_X12_feed_55b (W1, a, 0) = Z → f_X12_feed W a x y1 y2 y3 y4 = Z) ∧ (∀ b m z, ¬ (b = a ∧ m = 12) → W1 b m z = W b m z) ∧ ∀ q, 0 ≤ q → q < 5 → W1 a 12 q = if q = 0 then x else if q = 1 then y1 else if q = 2 then y2 else if q = 3 then y3 else y4 := by
    refine ⟨dv_u (dv_u (dv_u (dv_u (dv_u W a 12 0 x) a 12 1 y1) a 12 2 y2) a 12 3 y3) a 12 4 y4, fun Z hZ => ?_, fun b m z hb => ?_, fun q q0 q5 => ?_⟩
    · unfold f_X12_feed
      rw [bq, bq, if_pos hn, bq, bq, bq, bq, bq, hZ]
    · by_cases e : b = a
      · have e2 : m ≠ 12 := fun w => hb ⟨e, w⟩
        rw [u_j e2, u_j e2, u_j e2, u_j e2, u_j e2]
      · rw [u_b e, u_b e, u_b e, u_b e, u_b e]
    · have : q = 0 ∨ q = 1 ∨ q = 2 ∨ q = 3 ∨ q = 4 := by omega
      rcases this with rfl | rfl | rfl | rfl | rfl
      · rw [u_i (by decide), u_i (by decide), u_i (by decide), u_i (by decide), u_e]; rfl
      · rw [u_i (by decide), u_i (by decide), u_i (by decide), u_e]; rfl
      · rw [u_i (by decide), u_i (by decide), u_e]; rfl
      · rw [u_i (by decide), u_e]; rfl
      · rw [u_e]; rfl
  have n13 : W1 a 13 0 = W a 13 0 := g1 a 13 0 (fun q => absurd q.2 (by decide))
  have L : ∃ (W' : dV) (y : Int), dv_lp f_X12_feed_55b (W1, a, 0) = (W', y) ∧ y = W a 13 0 + 20 ∧ (∀ b m z, ¬ (b = a ∧ (m = 11 ∨ m = 13)) → W' b m z = W1 b m z) ∧ W' a 13 0 = W a 13 0 + 20 ∧ (∀ z, ¬ (W a 13 0 ≤ z ∧ z < W a 13 0 + 20) → W' a 11 z = W1 a 11 z) ∧ ∀ k, 0 ≤ k → k < 20 → W' a 11 (W a 13 0 + k) = bym (W1 a 12 (k / 4)) (k % 4) := by
    refine dv_inv (P := fun s => ∃ (U : dV) (j : Int), s = (U, a, j) ∧ 0 ≤ j ∧ j ≤ 20 ∧ (∀ b m z, ¬ (b = a ∧ m = 11) → U b m z = W1 b m z) ∧ (∀ z, ¬ (W a 13 0 ≤ z ∧ z < W a 13 0 + j) → U a 11 z = W1 a 11 z) ∧ ∀ k, 0 ≤ k → k < j → U a 11 (W a 13 0 + k) = bym (W1 a 12 (k / 4)) (k % 4)) (Q := fun q => ∃ (W' : dV) (y : Int), q = (W', y) ∧ y = W a 13 0 + 20 ∧ (∀ b m z, ¬ (b = a ∧ (m = 11 ∨ m = 13)) → W' b m z = W1 b m z) ∧ W' a 13 0 = W a 13 0 + 20 ∧ (∀ z, ¬ (W a 13 0 ≤ z ∧ z < W a 13 0 + 20) → W' a 11 z = W1 a 11 z) ∧ ∀ k, 0 ≤ k → k < 20 → W' a 11 (W a 13 0 + k) = bym (W1 a 12 (k / 4)) (k % 4)) (m := fun s => (20 - s.2.2).toNat) ?_ _ ⟨W1, 0, rfl, by omega, by omega, fun _ _ _ _ => rfl, fun _ _ => rfl, fun k k0 k1 => absurd k1 (by omega)⟩
    rintro q ⟨U, j, rfl, j0, j1, hf, hz, hk⟩
    have u13 : U a 13 0 = W a 13 0 := by rw [hf a 13 0 (fun q => absurd q.2 (by decide)), n13]
    have u12 : ∀ z, U a 12 z = W1 a 12 z := fun z => hf a 12 z (fun q => absurd q.2 (by decide))
    rw [f_X12_feed_55e]
    unfold f_X12_feed_55c
    by_cases e : 20 ≤ j
    · have ej : j = 20 := by omega
      subst ej
      rw [if_pos e, bq, u13, bq, bq, u_e, bq]
      refine Or.inr ⟨_, rfl, _, _, rfl, rfl, fun b m z hb => ?_, u_e, fun z hzz => ?_, fun k k0 k1 => ?_⟩
      · by_cases q : b = a
        · rw [u_j (fun w => hb ⟨q, Or.inr w⟩)]; exact hf b m z (fun w => hb ⟨w.1, Or.inl w.2⟩)
        · rw [u_b q]; exact hf b m z (fun w => q w.1)
      · rw [u_j (by decide)]; exact hz z hzz
      · rw [u_j (by decide)]; exact hk k k0 k1
    · rw [if_neg e, bq, u13, bq, bq, u12, bq, bq, bq, bq, bq, bq, bq, bq]
      refine Or.inl ⟨_, rfl, ⟨_, j + 1, rfl, by omega, by omega, fun b m z hb => ?_, fun z hzz => ?_, fun k k0 k1 => ?_⟩, by dsimp only; omega⟩
      · by_cases q : b = a
        · rw [u_j (fun w => hb ⟨q, w⟩)]; exact hf b m z hb
        · rw [u_b q]; exact hf b m z hb
      · rw [u_i (by omega)]; exact hz z (by omega)
      · by_cases q : k = j
        · rw [q, u_e]; rfl
        · rw [u_i (by omega)]; exact hk k k0 (by omega)
  obtain ⟨W', y, l1, rfl, l3, l4, l5, l6⟩ := L
  refine ⟨W', e1 _ l1, fun m z hm => ?_, l4, fun z hz => by rw [l5 z hz, g1 a 11 z (fun q => absurd q.2 (by decide))], fun k k0 k1 => ?_⟩
  · have hm' : ¬ m = 11 ∧ ¬ m = 12 ∧ ¬ m = 13 := by
      simp only [Bool.or_eq_false_iff, beq_eq_false_iff_ne, ne_eq] at hm
      exact ⟨hm.1.1, hm.1.2, hm.2⟩
    rw [l3 a m z (fun q => by rcases q.2 with q | q; exact hm'.1 q; exact hm'.2.2 q), g1 a m z (fun q => hm'.2.1 q.2)]
  · rw [l6 k k0 k1, f5 (k / 4) (by omega) (by omega)]
theorem L_feed {y1 y2 y3 y4 : Int} (h : RR A a V W) : ∃ V' W' u, f_X11_feed V (A 0) x y1 y2 y3 y4 = (V', u) ∧ f_X12_feed W a x y1 y2 y3 y4 = (W', u) ∧ RR A a V' W' := by
  have hA := h.1
  obtain ⟨g0, g1, g10, g5, -⟩ := RR_G h
  obtain ⟨-, -, -, -, ⟨t1, t2, t3⟩, -⟩ := id h
  by_cases e : W a 13 0 + 20 ≤ 400
  · have n0 : A 0 ≠ A 9 := inj_n hA (by decide) (by decide) (by decide)
    obtain ⟨V1, a1, a2, a3, a4, a5⟩ := c_four (V := V) (t := A 9) (x := x) (by omega)
    obtain ⟨V2, b1, b2, b3, b4, b5⟩ := c_four (V := V1) (t := A 9) (x := y1) (by omega)
    obtain ⟨V3, c1, c2, c3, c4, c5⟩ := c_four (V := V2) (t := A 9) (x := y2) (by omega)
    obtain ⟨V4, d1, d2, d3, d4, d5⟩ := c_four (V := V3) (t := A 9) (x := y3) (by omega)
    obtain ⟨V5, f1, f2, f3, f4, f5⟩ := c_four (V := V4) (t := A 9) (x := y4) (by omega)
    obtain ⟨W', w1, w2, w3, w4, w5⟩ := m_feed (W := W) (a := a) (x := x) (y1 := y1) (y2 := y2) (y3 := y3) (y4 := y4) e
    have p1 : V1 (A 0) 5 0 = A 9 := by rw [a2 _ _ _ (fun q => n0 q.1), g5]
    have p2 : V2 (A 0) 5 0 = A 9 := by rw [b2 _ _ _ (fun q => n0 q.1), p1]
    have p3 : V3 (A 0) 5 0 = A 9 := by rw [c2 _ _ _ (fun q => n0 q.1), p2]
    have p4 : V4 (A 0) 5 0 = A 9 := by rw [d2 _ _ _ (fun q => n0 q.1), p3]
    have p5 : V5 (A 0) 5 0 = A 9 := by rw [f2 _ _ _ (fun q => n0 q.1), p4]
    have F : cf A (fun i _ => i == 9) V V5 := cf_b hA (j := 9) (by decide) (fun b m z hb => by rw [f2 b m z (fun q => hb q.1), d2 b m z (fun q => hb q.1), c2 b m z (fun q => hb q.1), b2 b m z (fun q => hb q.1), a2 b m z (fun q => hb q.1)]) (fun _ => rfl)
    have n5 : V5 (A 9) 1 0 = W a 13 0 + 20 := by omega
    refine ⟨V5, W', W a 13 0 + 20, ?_, w1, RR_tp h F w2 ⟨by rw [n5, w3], by rw [w3]; omega, fun z z0 z1 => ?_⟩⟩
    · unfold f_X11_feed
      rw [bq, g5, bq, t1, bq, if_pos e, bq, dv_bn2 a1, bq, p1, dv_bn2 b1, bq, p2, dv_bn2 c1, bq, p3, dv_bn2 d1, bq, p4, dv_bn2 f1, bq, p5, bq, n5]
    · rw [w3] at z1
      by_cases e0 : z < W a 13 0
      · rw [f4 z (by omega), d4 z (by omega), c4 z (by omega), b4 z (by omega), a4 z (by omega), w4 z (by omega)]
        exact t3 z z0 e0
      · obtain ⟨k, hk⟩ : ∃ k, k = z - W a 13 0 := ⟨_, rfl⟩
        have hz : z = W a 13 0 + k := by omega
        have hr := byc_r (x := if k / 4 = 0 then x else if k / 4 = 1 then y1 else if k / 4 = 2 then y2 else if k / 4 = 3 then y3 else y4) (j := k % 4) (by omega) (by omega)
        rw [hz, w5 k (by omega) (by omega)]
        have hq : k / 4 = 0 ∨ k / 4 = 1 ∨ k / 4 = 2 ∨ k / 4 = 3 ∨ k / 4 = 4 := by omega
        rcases hq with q | q | q | q | q
        · rw [q, if_pos rfl] at hr ⊢
          rw [f4 _ (by omega), d4 _ (by omega), c4 _ (by omega), b4 _ (by omega), show W a 13 0 + k = V (A 9) 1 0 + k % 4 by omega, a5 (k % 4) (by omega) (by omega)]
          exact hr
        · rw [q, if_neg (by decide), if_pos rfl] at hr ⊢
          rw [f4 _ (by omega), d4 _ (by omega), c4 _ (by omega), show W a 13 0 + k = V1 (A 9) 1 0 + k % 4 by omega, b5 (k % 4) (by omega) (by omega)]
          exact hr
        · rw [q, if_neg (by decide), if_neg (by decide), if_pos rfl] at hr ⊢
          rw [f4 _ (by omega), d4 _ (by omega), show W a 13 0 + k = V2 (A 9) 1 0 + k % 4 by omega, c5 (k % 4) (by omega) (by omega)]
          exact hr
        · rw [q, if_neg (by decide), if_neg (by decide), if_neg (by decide), if_pos rfl] at hr ⊢
          rw [f4 _ (by omega), show W a 13 0 + k = V3 (A 9) 1 0 + k % 4 by omega, d5 (k % 4) (by omega) (by omega)]
          exact hr
        · rw [q, if_neg (by decide), if_neg (by decide), if_neg (by decide), if_neg (by decide)] at hr ⊢
          rw [show W a 13 0 + k = V4 (A 9) 1 0 + k % 4 by omega, f5 (k % 4) (by omega) (by omega)]
          exact hr
  · refine ⟨V, W, -1, ?_, ?_, h⟩
    · unfold f_X11_feed
      rw [bq, g5, bq, t1, bq, if_neg e]
    · unfold f_X12_feed
      rw [bq, bq, if_neg e]
end QSP
section QSQ
variable {V V' V0 V1 V2 W W' W0 W1 W2 : dV} {a b c z t k s p x y n L i j came lost : Int} {A : Nat → Int} {K K' : Int → Int} {φ φ' : Nat → Int → Int} {fl : Int}
theorem fl_add (h : flR fl V (W a 2) 0) (hs : 1 ≤ s ∧ s ≤ 12) (hk : 0 ≤ k ∧ k ≤ 3) (hp : 0 ≤ p ∧ p ≤ 9) (hn : V fl 7 0 < 9) : ∃ V' W', f_X1_add V fl s k p = (V', V fl 7 0) ∧ f_X12_adds W a s k p = (W', 0) ∧ (∀ b m z, b ≠ fl → V' b m z = V b m z) ∧ (∀ b m z, ¬ (b = a ∧ m = 2) → W' b m z = W b m z) ∧ (∀ z, 47 ≤ z → z ≠ 69 → W' a 2 z = W a 2 z) ∧ flR fl V' (W' a 2) 0 ∧ V' fl 7 0 = V fl 7 0 + 1 := by
  obtain ⟨k1, k1'⟩ := h
  have e7 : V fl 7 0 = W a 2 69 := (ef_n k1).1
  have n0 := k1'.1.1
  obtain ⟨V', eV, f1, f2, f3, f4⟩ := c_add1 (V := V) (fl := fl) hs hk hp hn
  obtain ⟨W', eW, g1, g2⟩ := m_adds (W := W) (a := a) (s := s) (k := k) (p := p) (by omega)
  refine ⟨V', W', eV, eW, f1, g1, fun z z0 z1 => ?_, ⟨?_, ?_⟩, f3⟩
  · rw [g2, if_neg z1, if_neg (by omega), if_neg (by omega), if_neg (by omega), if_neg (by omega)]
  · exact ef_add (φ := V fl) k1 (by omega) f3 f4 (fun z => f2 5 z (by decide) (by decide) (by decide) (by decide) (by decide) (by decide)) (f2 8 0 (by decide) (by decide) (by decide) (by decide) (by decide) (by decide)) (f2 9 0 (by decide) (by decide) (by decide) (by decide) (by decide) (by decide)) (f2 10 0 (by decide) (by decide) (by decide) (by decide) (by decide) (by decide)) g2
  · exact kg_add k1' hn hs hk hp f3 f4 (fun z => f2 5 z (by decide) (by decide) (by decide) (by decide) (by decide) (by decide)) (f2 8 0 (by decide) (by decide) (by decide) (by decide) (by decide) (by decide)) (f2 9 0 (by decide) (by decide) (by decide) (by decide) (by decide) (by decide)) (f2 10 0 (by decide) (by decide) (by decide) (by decide) (by decide) (by decide))
theorem RR_rowend (h : RR A a V W) (f : cf A (fun i m => i == 4 || (i == 0 && m == 16) || i == 9 || (i == 15 && m == 4)) V V') (g : wf a (fun m => m == 2 || m == 6 || m == 13 || m == 33) W W') (hK : ∀ z, (47 ≤ z ∧ z < 65) ∨ (70 ≤ z ∧ z < 5680) → W' a 2 z = W a 2 z) (hf : flR (A 4) V' (W' a 2) 0) (h9 : V' (A 9) 1 0 = 0) (h13 : W' a 13 0 = 0) (h15 : V' (A 15) 4 0 = 0) (h33 : W' a 33 0 = 0) (h16 : V' (A 0) 16 0 = W' a 6 0) : RR A a V' W' := by
  obtain ⟨h1, h2, ⟨-, k2, k3⟩, h4, h5, -, h7, h8, h9', h10⟩ := h
  refine ⟨h1, G_c h2 (cf_ag f rfl), ⟨hf, seR_c k2 (f 1 7 0 (by decide) (by decide) rfl) (fun z _ _ => ⟨f 1 2 z (by decide) (by decide) rfl, f 1 3 z (by decide) (by decide) rfl, f 1 4 z (by decide) (by decide) rfl⟩) (fun z hz => by rw [Int.zero_add]; exact hK z (by omega)), laR_c (by decide) k3 (cf_ag f rfl) (fun z hz => by rw [Int.zero_add]; exact hK z (by omega))⟩, imR_c h4 (cf_ag f rfl) (fun z => g 3 z rfl) (fun z => g 4 z rfl), ⟨by rw [h9, h13], by rw [h13]; decide, fun z z0 z1 => absurd z1 (by omega)⟩, psR_0 h15 h33, ppR_c h7 (cf_ag f rfl) (fun z => g 54 z rfl) (g 55 0 rfl), miR_c h8 (cf_ag f rfl) (g 0 0 rfl) (fun z => g 1 z rfl), ⟨?_, h16, ?_⟩, rdR_c h10 (fun z => f 10 1 z (by decide) (by decide) rfl) (fun z _ => f 14 1 z (by decide) (by decide) rfl) (fun z => g 7 z rfl) (fun z => g 17 z rfl)⟩
  · rw [f 0 15 0 (by decide) (by decide) rfl, g 14 0 rfl]; exact h9'.1
  · rw [f 0 17 0 (by decide) (by decide) rfl, g 47 0 rfl]; exact h9'.2.2
/-- on the way through a row -/
def rwI (A : Nat → Int) (a L : Int) (V0 W0 V W : dV) : Prop := (V (A 0) 0 0 = A 1 ∧ V (A 1) 0 0 = A 4 ∧ V (A 0) 10 0 = A 15 ∧ V (A 0) 5 0 = A 9) ∧ V (A 9) 1 0 = L ∧ (∀ z, 0 ≤ z → z < L → byr (V (A 9) 0 z) (W a 11 z)) ∧ flR (A 4) V (W a 2) 0 ∧ cf A (fun i _ => i == 4) V0 V ∧ wf a (fun m => m == 2 || m == 6 || m == 13) W0 W ∧ (∀ z, 47 ≤ z → z ≠ 69 → W a 2 z = W0 a 2 z) ∧ W a 13 0 = 0
theorem rw_end (hA : inj A) (h : RR A a V0 W0) (hI : rwI A a L V0 W0 V W) (hc : 0 ≤ came) (hl : W a 6 0 = lost) (hi : L ≤ i) (hj : L < j + 3) : ∃ V' W', f_X11_row_23b (V, A 0, came, lost, i) = Sum.inr (V', came) ∧ f_X12_row_40b (W, L, a, came, j) = Sum.inr (W', came) ∧ RR A a V' W' := by
  obtain ⟨⟨g0, g1, g10, g5⟩, hL, hB, hf, F, GW, hK, h13⟩ := hI
  have R : RR A a (dv_u (dv_u (dv_u V (A 0) 16 0 lost) (A 9) 1 0 0) (A 15) 4 0 0) (dv_u W a 33 0 0) := by
    refine RR_rowend h (cf_t (cf_t (cf_t (cf_m F (fun i m hL => ?_)) (cf_u hA (by decide) rfl)) (cf_u hA (by decide) rfl)) (cf_u hA (by decide) rfl)) (wf_t (wf_m GW (fun m hM => ?_)) (wf_u rfl)) (fun z hz => by rw [u_j (by decide)]; exact hK z (by omega) (by omega)) (flR_c hf (fun j c _ _ => ?_) (fun z _ => u_j (by decide))) ?_ (by rw [u_j (by decide)]; exact h13) u_e u_e ?_
    · simp only [Bool.or_eq_false_iff] at hL; exact hL.1.1.1
    · simp only [Bool.or_eq_false_iff] at hM ⊢; exact hM.1
    · rw [u_b (inj_n hA (by decide) (by decide) (by decide)), u_b (inj_n hA (by decide) (by decide) (by decide)), u_b (inj_n hA (by decide) (by decide) (by decide))]
    · rw [u_b (inj_n hA (by decide) (by decide) (by decide)), u_e]
    · rw [u_b (inj_n hA (by decide) (by decide) (by decide)), u_b (inj_n hA (by decide) (by decide) (by decide)), u_e, u_j (by decide), hl]
  obtain ⟨V2, W2, r1, r2, r3⟩ := RR_good (t := came) R hc
  refine ⟨V2, W2, ?_, ?_, r3⟩
  · have e5 : dv_u V (A 0) 16 0 lost (A 0) 5 0 = A 9 := by rw [u_j (by decide), g5]
    have e10 : dv_u (dv_u V (A 0) 16 0 lost) (A 9) 1 0 0 (A 0) 10 0 = A 15 := by rw [u_b (inj_n hA (by decide) (by decide) (by decide)), u_j (by decide), g10]
    rw [f_X11_row_23e]
    unfold f_X11_row_23c
    rw [bq, g5, bq, hL, if_pos hi, bq, bq, e5, bq, bq, e10, dv_bn2 c_clear, dv_bn2 r1]
  · rw [f_X12_row_40e]
    unfold f_X12_row_40c
    rw [bq, if_pos hj, m_settled, dv_bn2 r2]
theorem byr_p {b' : Int} (h : byr b b') (l u : Int) (hl : 0 ≤ l) (hu : u ≤ 127) : (l ≤ b ∧ b ≤ u ↔ l ≤ b' ∧ b' ≤ u) ∧ (l ≤ b ∧ b ≤ u → b' = b) := by
  unfold byr at h
  obtain ⟨h1, h2⟩ := h
  split at h2 <;> omega
theorem rw_L (hA : inj A) (h : RR A a V0 W0) (m : Nat) : ∀ (V W : dV) (came lost i : Int), L - i ≤ m → rwI A a L V0 W0 V W → (0 ≤ L ∧ L ≤ 400) → 0 ≤ i → i ≤ L → i % 3 = 0 → (0 ≤ came ∧ came ≤ i) → (0 ≤ lost ∧ lost ≤ i) → W a 6 0 = lost + (if L % 3 = 0 then 0 else 1) → ∃ V' W' y, dv_lp f_X11_row_23b (V, A 0, came, lost, i) = (V', y) ∧ dv_lp f_X12_row_40b (W, L, a, came, i) = (W', y) ∧ RR A a V' W' := by
  induction m with
  | zero =>
    intro V W came lost i hm hI hL i0 iL i3 hc hl h6
    have e : i = L := by omega
    rw [if_pos (by rw [← e]; exact i3)] at h6
    obtain ⟨V', W', e1, e2, r⟩ := rw_end (i := i) (j := i) (came := came) (lost := lost) hA h hI hc.1 (by omega) (by omega) (by omega)
    exact ⟨V', W', came, dv_lp_e e1, dv_lp_e e2, r⟩
  | succ m ih =>
    intro V W came lost i hm hI hL i0 iL i3 hc hl h6
    by_cases e : i = L
    · rw [if_pos (by rw [← e]; exact i3)] at h6
      obtain ⟨V', W', e1, e2, r⟩ := rw_end (i := i) (j := i) (came := came) (lost := lost) hA h hI hc.1 (by omega) (by omega) (by omega)
      exact ⟨V', W', came, dv_lp_e e1, dv_lp_e e2, r⟩
    by_cases e3 : i + 2 < L
    case neg =>
      -- what is left is no whole carpet
      rw [if_neg (by omega)] at h6
      obtain ⟨⟨g0, g1, g10, g5⟩, hLL, -⟩ := id hI
      obtain ⟨V', W', e1, e2, r⟩ := rw_end (i := i + 3) (j := i) (came := came) (lost := lost + 1) hA h hI hc.1 h6 (by omega) (by omega)
      refine ⟨V', W', came, ?_, dv_lp_e e2, r⟩
      have st : f_X11_row_23b (V, A 0, came, lost, i) = Sum.inl (V, A 0, came, lost + 1, i + 3) := by
        rw [f_X11_row_23e]
        unfold f_X11_row_23c f_X11_row_97 f_X11_row_100
        rw [bq, g5, bq, hLL, if_neg (by omega), bq, bq, bq, if_pos (by omega), bq, dv_add_ok (by omega) (by omega) (by omega) (by omega) (by omega) (by omega), bq]
      rw [dv_lp_s st]
      exact dv_lp_e e1
    case pos =>
      obtain ⟨⟨g0, g1, g10, g5⟩, hLL, hB, hf, F, GW, hK, h13⟩ := id hI
      have b0 := hB i i0 (by omega)
      have b1 := hB (i + 1) (by omega) (by omega)
      have b2 := hB (i + 2) (by omega) (by omega)
      obtain ⟨q0, q0'⟩ := byr_p b0 1 12 (by decide) (by decide)
      obtain ⟨q1, q1'⟩ := byr_p b1 0 3 (by decide) (by decide)
      obtain ⟨q2, q2'⟩ := byr_p b2 0 9 (by decide) (by decide)
      have e7 : V (A 4) 7 0 = W a 2 69 := (ef_n hf.1).1
      have n7 : 0 ≤ V (A 4) 7 0 ∧ V (A 4) 7 0 ≤ 9 := hf.2.1.1
      -- fluff
      have FL : ∀ r : Int, r < 0 → f_X1_add V (A 4) (V (A 9) 0 i) (V (A 9) 0 (i + 1)) (V (A 9) 0 (i + 2)) = (V, r) → f_X12_row_40b (W, L, a, came, i) = Sum.inl (dv_u W a 6 0 (dv_add (W a 6 0) 1), L, a, came, i + 3) → ∃ V' W' y, dv_lp f_X11_row_23b (V, A 0, came, lost, i) = (V', y) ∧ dv_lp f_X12_row_40b (W, L, a, came, i) = (W', y) ∧ RR A a V' W' := by
        intro r hr ha hw
        have st : f_X11_row_23b (V, A 0, came, lost, i) = Sum.inl (V, A 0, came, lost + 1, i + 3) := by
          rw [f_X11_row_23e]
          unfold f_X11_row_23c f_X11_row_97 f_X11_row_100
          simp only [bq, g0, g1, g5]
          rw [hLL, if_neg (by omega), if_neg (by omega), dv_bn2 ha, if_pos hr, dv_add_ok (by omega) (by omega) (by omega) (by omega) (by omega) (by omega)]
        have hl6 : W a 6 0 ≤ 401 ∧ 0 ≤ W a 6 0 := by rw [h6]; split <;> omega
        rw [dv_lp_s st, dv_lp_s hw]
        refine ih V _ came (lost + 1) (i + 3) (by omega) ⟨⟨g0, g1, g10, g5⟩, hLL, fun z z0 z1 => by rw [u_j (by decide)]; exact hB z z0 z1, flR_c hf (fun _ _ _ _ => rfl) (fun z _ => u_j (by decide)), F, wf_t GW (wf_u rfl), fun z z0 z1 => by rw [u_j (by decide)]; exact hK z z0 z1, by rw [u_j (by decide)]; exact h13⟩ hL (by omega) (by omega) (by omega) (by omega) (by omega) ?_
        rw [u_e, dv_add_ok (by omega) (by omega) (by omega) (by omega) (by omega) (by omega), h6]
        omega
      by_cases hv : (1 ≤ V (A 9) 0 i ∧ V (A 9) 0 i ≤ 12) ∧ (0 ≤ V (A 9) 0 (i + 1) ∧ V (A 9) 0 (i + 1) ≤ 3) ∧ 0 ≤ V (A 9) 0 (i + 2) ∧ V (A 9) 0 (i + 2) ≤ 9
      · have hv' : (1 ≤ W a 11 i ∧ W a 11 i ≤ 12) ∧ (0 ≤ W a 11 (i + 1) ∧ W a 11 (i + 1) ≤ 3) ∧ 0 ≤ W a 11 (i + 2) ∧ W a 11 (i + 2) ≤ 9 := ⟨q0.mp hv.1, q1.mp hv.2.1, q2.mp hv.2.2⟩
        by_cases h9 : V (A 4) 7 0 < 9
        · obtain ⟨V1, W1, eV, eW, f1, f2, f3, f4, f5⟩ := fl_add (a := a) hf hv.1 hv.2.1 hv.2.2 h9
          have st : f_X11_row_23b (V, A 0, came, lost, i) = Sum.inl (V1, A 0, came + 1, lost, i + 3) := by
            rw [f_X11_row_23e]
            unfold f_X11_row_23c f_X11_row_97 f_X11_row_100
            simp only [bq, g0, g1, g5]
            rw [hLL, if_neg (by omega), if_neg (by omega), dv_bn2 eV, if_neg (by omega), dv_add_ok (by omega) (by omega) (by omega) (by omega) (by omega) (by omega)]
          have stW : f_X12_row_40b (W, L, a, came, i) = Sum.inl (dv_u W1 a 6 0 (W1 a 6 0 + 0), L, a, came + 1, i + 3) := by
            rw [f_X12_row_40e]
            unfold f_X12_row_40c f_X12_row_122x3
            rw [bq, if_neg (by omega), dv_bn2 q_many, if_neg (by omega), bq, bq, bq, bq, bq, dv_bn2 q_canBe, if_pos hv', if_neg (by decide), bq, bq, bq, bq, bq, q0' hv.1, q1' hv.2.1, q2' hv.2.2, dv_bn2 eW, bq, bq, bq, bq, bq, dv_add_ok (by omega) (by omega) (by omega) (by omega) (by omega) (by omega)]
          rw [dv_lp_s st, dv_lp_s stW]
          have n0 : ∀ {i : Nat}, i < 38 → i ≠ 4 → ∀ m z, V1 (A i) m z = V (A i) m z := fun hi hn m z => f1 _ m z (inj_n hA hi (by decide) hn)
          have w6 : W1 a 6 0 = W a 6 0 := f2 a 6 0 (fun q => absurd q.2 (by decide))
          refine ih V1 _ (came + 1) lost (i + 3) (by omega) ⟨⟨by rw [n0 (by decide) (by decide), g0], by rw [n0 (by decide) (by decide), g1], by rw [n0 (by decide) (by decide), g10], by rw [n0 (by decide) (by decide), g5]⟩, by rw [n0 (by decide) (by decide), hLL], fun z z0 z1 => by rw [n0 (by decide) (by decide), u_j (by decide), f2 a 11 z (fun q => absurd q.2 (by decide))]; exact hB z z0 z1, flR_c f4 (fun _ _ _ _ => rfl) (fun z _ => u_j (by decide)), cf_t F (cf_b hA (by decide) f1 (fun _ => rfl)), wf_t (wf_t GW (wf_b f2 rfl)) (wf_u rfl), fun z z0 z1 => by rw [u_j (by decide), f3 z z0 z1]; exact hK z z0 z1, by rw [u_j (by decide), f2 a 13 0 (fun q => absurd q.2 (by decide))]; exact h13⟩ hL (by omega) (by omega) (by omega) (by omega) (by omega) ?_
          rw [u_e, w6, h6]
          omega
        · refine FL (-5) (by decide) (c_add5 hv.1 hv.2.1 hv.2.2 h9) ?_
          rw [f_X12_row_40e]
          unfold f_X12_row_40c f_X12_row_122
          rw [bq, if_neg (by omega), dv_bn2 q_many, if_pos (by omega), bq, bq, bq, bq, bq, Int.add_zero]
      · refine FL (-1) (by decide) (c_add0 hv) ?_
        have hv' : ¬ ((1 ≤ W a 11 i ∧ W a 11 i ≤ 12) ∧ (0 ≤ W a 11 (i + 1) ∧ W a 11 (i + 1) ≤ 3) ∧ 0 ≤ W a 11 (i + 2) ∧ W a 11 (i + 2) ≤ 9) := fun q => hv ⟨q0.mpr q.1, q1.mpr q.2.1, q2.mpr q.2.2⟩
        rw [f_X12_row_40e]
        unfold f_X12_row_40c f_X12_row_122 f_X12_row_122x2
        by_cases h9 : 9 ≤ W a 2 69
        · rw [bq, if_neg (by omega), dv_bn2 q_many, if_pos h9, bq, bq, bq, bq, bq, Int.add_zero]
        · rw [bq, if_neg (by omega), dv_bn2 q_many, if_neg h9, bq, bq, bq, bq, bq, dv_bn2 q_canBe, if_neg hv', if_pos rfl, bq, bq, bq, bq, bq, Int.add_zero]
theorem L_row (h : RR A a V W) : ∃ V' W' u, f_X11_row V (A 0) = (V', u) ∧ f_X12_row W a = (W', u) ∧ RR A a V' W' := by
  have hA := h.1
  obtain ⟨g0, g1, g10, g5, -⟩ := RR_G h
  obtain ⟨-, -, ⟨hf, -, -⟩, -, ⟨t1, t2, t3⟩, -⟩ := id h
  have hf : flR (A 4) V (W a 2) 0 := hf
  by_cases e : W a 13 0 = 0
  · have R : RR A a V (dv_u W a 13 0 0) := RR_tp h cf_r (wf_u rfl) ⟨by rw [u_e, t1, e], by rw [u_e]; decide, fun z z0 z1 => absurd z1 (by rw [u_e]; omega)⟩
    obtain ⟨V2, W2, r1, r2, r3⟩ := RR_bad (k := -6) R (Or.inr (Or.inr (Or.inr (Or.inr ⟨rfl, rfl, rfl⟩))))
    refine ⟨V2, W2, -6, ?_, ?_, r3⟩
    · unfold f_X11_row
      rw [bq, g5, bq, t1, if_neg (fun q => q e), dv_bn2 r1]
    · unfold f_X12_row
      rw [bq, bq, if_neg (fun q => q e), dv_bn2 r2]
  · have G : ∀ v, rwI A a (W a 13 0) V W V (dv_u (dv_u W a 13 0 0) a 6 0 v) := fun v => ⟨⟨g0, g1, g10, g5⟩, t1, fun z z0 z1 => by rw [u_j (by decide), u_j (by decide)]; exact t3 z z0 z1, flR_c hf (fun _ _ _ _ => rfl) (fun z _ => by rw [u_j (by decide), u_j (by decide)]), cf_r, wf_t (wf_u rfl) (wf_u rfl), fun z _ _ => by rw [u_j (by decide), u_j (by decide)], by rw [u_j (by decide), u_e]⟩
    obtain ⟨V', W', y, e1, e2, r⟩ := rw_L hA h (W a 13 0).toNat V (dv_u (dv_u W a 13 0 0) a 6 0 (if W a 13 0 % 3 = 0 then 0 else 1)) 0 0 0 (by omega) (G _) t2 (by decide) t2.1 (by decide) (by decide) (by decide) (by rw [u_e]; omega)
    refine ⟨V', W', y, ?_, ?_, r⟩
    · unfold f_X11_row
      rw [bq, g5, bq, t1, if_pos e, e1]
    · unfold f_X12_row f_X12_row_35
      rw [bq, bq, if_pos e, bq]
      by_cases e3 : W a 13 0 % 3 = 0
      · rw [if_pos e3] at e2
        rw [if_neg (fun q => q e3), bq, e2]
      · rw [if_neg e3] at e2
        rw [if_pos e3, bq, e2]
end QSQ
section QSR
variable {V V' V0 V1 V2 W W' W0 W1 W2 : dV} {a b b' c z t k s p x y n L i j u o : Int} {A : Nat → Int} {K K' : Int → Int}
/-- the stand has changed, but for its floor -/
theorem RR_st (h : RR A a V W) (f : cf A (fun i m => (i == 1 && 2 ≤ m) || (20 ≤ i && i < 26)) V V') (g : wf a (fun m => m == 2) W W') (hK : ∀ z, (0 ≤ z ∧ z < 47) ∨ (65 ≤ z ∧ z < 70) → W' a 2 z = W a 2 z) (hs : seR (A 1) V' (W' a 2) 0) (hl : laR A 0 V' (W' a 2) 0) : RR A a V' W' := by
  obtain ⟨h1, h2, ⟨k1, -, -⟩, h4, h5, h6, h7, h8, h9, h10⟩ := h
  exact ⟨h1, G_c h2 (cf_ag f rfl), ⟨flR_c k1 (fun j c hj h6 => (f 4 j c (by decide) (by omega) (by simp)).symm) (fun z hz => by rw [Int.zero_add]; exact hK z hz), hs, hl⟩, imR_c h4 (cf_ag f rfl) (fun z => g 3 z rfl) (fun z => g 4 z rfl), tpR_c h5 (cf_ag f rfl) (fun z => g 11 z rfl) (g 13 0 rfl), psR_c h6 (cf_ag f rfl) (fun z => g 31 z rfl) (g 33 0 rfl), ppR_c h7 (cf_ag f rfl) (fun z => g 54 z rfl) (g 55 0 rfl), miR_c h8 (cf_ag f rfl) (g 0 0 rfl) (fun z => g 1 z rfl), taR_c h9 (cf_ag f rfl) (g 14 0 rfl) (g 6 0 rfl) (g 47 0 rfl), rdR_c h10 (fun z => f 10 1 z (by decide) (by decide) rfl) (fun z _ => f 14 1 z (by decide) (by decide) rfl) (fun z => g 7 z rfl) (fun z => g 17 z rfl)⟩
theorem c_lawOf : f_X8_lawOf V s p = (if 0 ≤ p ∧ p < V s 5 0 then V s 1 p else -1, ()) := by
  unfold f_X8_lawOf
  by_cases e : p < 0
  · rw [if_pos e, if_neg (by omega)]
  · rw [if_neg e, bq]
    by_cases e1 : V s 5 0 ≤ p
    · rw [if_pos e1, if_neg (by omega)]
    · rw [if_neg e1, if_pos (by omega), bq]
theorem L_force (h : RR A a V W) : ∃ V' W' u, f_X11_force V (A 0) p = (V', u) ∧ f_X12_force W a p = (W', u) ∧ RR A a V' W' := by
  have hA := h.1
  obtain ⟨g0, -⟩ := RR_G h
  obtain ⟨-, ⟨-, -, -, gk⟩, ⟨-, k2, k3⟩, -⟩ := id h
  have g1 := (gk 0 (by decide)).2
  obtain ⟨l1, l2, l3, l4, l5⟩ := id k3
  have l1 : V (A 1) 5 0 = W a 2 71 := by have := l1; rw [Int.zero_add] at this; exact this
  have l3 : V (A 1) 6 0 = W a 2 72 := by have := l3; rw [Int.zero_add] at this; exact this
  have l2 : 0 ≤ V (A 1) 5 0 ∧ V (A 1) 5 0 ≤ 6 := l2
  by_cases e : -1 ≤ p ∧ p < W a 2 71
  · have R1 : RR A a (dv_u V (A 1) 6 0 p) (dv_u W a 2 72 p) := by
      have n1 : ∀ {i : Nat}, i < 38 → i ≠ 1 → ∀ m z, dv_u V (A 1) 6 0 p (A i) m z = V (A i) m z := fun hi hn m z => u_b (inj_n hA hi (by decide) hn)
      refine RR_st h (cf_u hA (by decide) rfl) (wf_u rfl) (fun z hz => u_i (by omega)) (seR_c k2 (u_j (by decide)) (fun z _ _ => ⟨u_j (by decide), u_j (by decide), u_j (by decide)⟩) (fun z hz => u_i (by omega))) ⟨?_, ?_, ?_, ?_, fun t ht => ?_⟩
      · show dv_u V (A 1) 6 0 p (A 1) 5 0 = dv_u W a 2 72 p a 2 71
        rw [u_j (by decide), u_i (by decide), l1]
      · show 0 ≤ dv_u V (A 1) 6 0 p (A 1) 5 0 ∧ dv_u V (A 1) 6 0 p (A 1) 5 0 ≤ 6
        rw [u_j (by decide)]; exact l2
      · show dv_u V (A 1) 6 0 p (A 1) 6 0 = dv_u W a 2 72 p a 2 72
        rw [u_e, u_e]
      · show -1 ≤ dv_u V (A 1) 6 0 p (A 1) 6 0 ∧ dv_u V (A 1) 6 0 p (A 1) 6 0 < dv_u V (A 1) 6 0 p (A 1) 5 0
        rw [u_e, u_j (by decide), l1]; exact e
      · have ht : (t : Int) < dv_u V (A 1) 6 0 p (A 1) 5 0 := ht
        rw [u_j (by decide)] at ht
        exact txR_c (by omega) (by omega) (l5 t ht) (fun z _ => n1 (by omega) (by omega) 0 z) (fun z _ _ => n1 (by omega) (by omega) 1 z) (n1 (by omega) (by omega) 2 0) (n1 (by omega) (by omega) 3 0) (fun z hz => u_i (by omega))
    have R2 := RR_mi R1 (V' := dv_u (dv_u V (A 1) 6 0 p) (A 0) 14 0 0) (W' := dv_u (dv_u W a 2 72 p) a 0 0 0) (cf_u hA (by decide) rfl) (wf_u rfl) (by
      obtain ⟨-, -, -, -, -, -, -, ⟨hm, -⟩, -⟩ := id R1
      have e : ∀ z, dv_u (dv_u V (A 1) 6 0 p) (A 0) 14 0 0 (A 0) 13 z = dv_u V (A 1) 6 0 p (A 0) 13 z := fun z => u_j (by decide)
      have e' : ∀ z, dv_u (dv_u W a 2 72 p) a 0 0 0 a 1 z = dv_u W a 2 72 p a 1 z := fun z => u_j (by decide)
      refine ⟨?_, by rw [u_e, u_e]⟩
      rw [e, e, e, e, e, e', e', e', e', e']
      exact hm)
    refine ⟨_, _, V (A 1) 6 0, ?_, ?_, R2⟩
    · have q : f_X11_force_23 V (A 0) p = (dv_u (dv_u V (A 1) 6 0 p) (A 0) 14 0 0, V (A 1) 6 0) := by
        unfold f_X11_force_23
        rw [bq, g0, bq, bq, bq, bq]
      unfold f_X11_force
      by_cases e1 : p = -1
      · rw [if_pos e1, q]
      · have hp0 : 0 ≤ p := by omega
        have hn : V (A 1) 1 p ≠ -1 := by
          have := g1 p.toNat (by omega)
          have hc : ((p.toNat : Nat) : Int) = p := by omega
          rw [hc] at this
          rw [show A 1 = A (1 + 0) from rfl, this]
          exact hA.2 _ (by omega)
        have hlo : f_X8_lawOf V (A 1) p = (V (A 1) 1 p, ()) := by rw [c_lawOf, if_pos (by omega)]
        rw [if_neg e1, bq, g0, dv_bn2 hlo, if_neg hn, q]
    · unfold f_X12_force
      rw [dv_bn2 q_isLaw, if_pos e, if_pos (by decide), bq, bq, dv_bn2 an_gm, l3]
  · obtain ⟨V2, W2, r1, r2, r3⟩ := RR_bad (k := -2) h (Or.inr (Or.inl ⟨rfl, rfl, rfl⟩))
    refine ⟨V2, W2, -2, ?_, ?_, r3⟩
    · unfold f_X11_force
      have hlo : f_X8_lawOf V (A 1) p = (-1, ()) := by rw [c_lawOf, if_neg (by omega)]
      rw [if_neg (by omega), bq, g0, dv_bn2 hlo, if_pos rfl, dv_bn2 r1]
    · unfold f_X12_force
      rw [dv_bn2 q_isLaw, if_neg e, if_neg (fun q => q rfl), dv_bn2 r2]
theorem c_onGrid : f_X11_onGrid V x = (if 0 ≤ x ∧ x ≤ 11 then 1 else 0, ()) := by
  unfold f_X11_onGrid
  by_cases e : x < 0
  · rw [if_pos e, if_neg (by omega)]
  · rw [if_neg e]
    by_cases e1 : 12 ≤ x
    · rw [if_pos e1, if_neg (by omega)]
    · rw [if_neg e1, if_pos (by omega)]
theorem L_forget (h : RR A a V W) : ∃ V' W' u, f_X11_forget V (A 0) = (V', u) ∧ f_X12_forget W a = (W', u) ∧ RR A a V' W' := by
  have hA := h.1
  obtain ⟨g0, -⟩ := RR_G h
  obtain ⟨-, -, ⟨-, k2, k3⟩, -⟩ := id h
  have s1 : V (A 1) 7 0 = W a 2 70 := by have := k2.1; rw [Int.zero_add] at this; exact this
  have n1 : ∀ {i : Nat}, i < 38 → i ≠ 1 → ∀ m z, dv_u V (A 1) 7 0 0 (A i) m z = V (A i) m z := fun hi hn m z => u_b (inj_n hA hi (by decide) hn)
  refine ⟨dv_u V (A 1) 7 0 0, dv_u W a 2 70 0, V (A 1) 7 0, ?_, ?_, RR_st h (cf_u hA (by decide) rfl) (wf_u rfl) (fun z hz => u_i (by omega)) ⟨?_, ?_, fun z z0 z1 => ?_⟩ (laR_c (by decide) k3 (fun i m z hi hm hd => ?_) (fun z hz => u_i (by omega)))⟩
  · unfold f_X11_forget
    rw [bq, g0, bq, bq, bq]
  · unfold f_X12_forget
    rw [bq, bq, s1]
  · show dv_u V (A 1) 7 0 0 (A 1) 7 0 = dv_u W a 2 70 0 a 2 70
    rw [u_e, u_e]
  · rw [u_e]; decide
  · rw [u_e] at z1; omega
  · by_cases e : i = 1
    · subst e
      have : m ≠ 7 := by intro q; subst q; cases hd
      exact u_j this
    · exact n1 hi e m z
theorem L_seen (h : RR A a V W) : ∃ V' W' u, f_X11_seen V (A 0) x y s = (V', u) ∧ f_X12_seen W a x y s = (W', u) ∧ RR A a V' W' := by
  have hA := h.1
  obtain ⟨g0, -⟩ := RR_G h
  obtain ⟨-, -, ⟨-, k2, k3⟩, -⟩ := id h
  have s1 : V (A 1) 7 0 = W a 2 70 := by have := k2.1; rw [Int.zero_add] at this; exact this
  have s2 : 0 ≤ V (A 1) 7 0 ∧ V (A 1) 7 0 ≤ 6 := k2.2.1
  have s3 := k2.2.2
  by_cases e : (0 ≤ x ∧ x ≤ 11) ∧ (0 ≤ y ∧ y ≤ 11) ∧ 1 ≤ s ∧ s ≤ 12
  case neg =>
    obtain ⟨V2, W2, r1, r2, r3⟩ := RR_bad (k := -1) h (Or.inl ⟨rfl, rfl, rfl⟩)
    refine ⟨V2, W2, -1, ?_, ?_, r3⟩
    · have q : f_X11_seen_25 V (A 0) = (V2, -1) := by unfold f_X11_seen_25; rw [dv_bn2 r1]
      unfold f_X11_seen
      rw [dv_bn2 c_onGrid]
      by_cases hx : 0 ≤ x ∧ x ≤ 11
      · rw [if_pos hx, if_neg (by decide), dv_bn2 c_onGrid]
        by_cases hy : 0 ≤ y ∧ y ≤ 11
        · rw [if_pos hy, if_neg (by decide)]
          by_cases hs : s < 1
          · rw [if_pos hs, q]
          · rw [if_neg hs, if_neg (by omega), q]
        · rw [if_neg hy, if_pos rfl, q]
      · rw [if_neg hx, if_pos rfl, q]
    · have q : f_X12_seen_21 W a = (W2, -1) := by unfold f_X12_seen_21; rw [dv_bn2 r2]
      unfold f_X12_seen
      rw [dv_bn2 q_isAlong]
      by_cases hx : 0 ≤ x ∧ x ≤ 11
      · rw [if_pos hx, if_neg (by decide), dv_bn2 q_isAlong]
        by_cases hy : 0 ≤ y ∧ y ≤ 11
        · rw [if_pos hy, if_neg (by decide), dv_bn2 q_isSide, if_neg (fun w => e ⟨hx, hy, w⟩), if_neg (fun w => w rfl), q]
        · rw [if_neg hy, if_pos rfl, q]
      · rw [if_neg hx, if_pos rfl, q]
  case pos =>
    obtain ⟨hx, hy, hs⟩ := e
    by_cases e6 : V (A 1) 7 0 < 6
    case neg =>
      obtain ⟨V2, W2, r1, r2, r3⟩ := RR_bad (k := -5) h (Or.inr (Or.inr (Or.inr (Or.inl ⟨rfl, rfl, rfl⟩))))
      refine ⟨V2, W2, -5, ?_, ?_, r3⟩
      · unfold f_X11_seen
        rw [dv_bn2 c_onGrid, if_pos hx, if_neg (by decide), dv_bn2 c_onGrid, if_pos hy, if_neg (by decide), if_neg (by omega), if_pos (by omega), bq, g0, bq, if_neg e6, dv_bn2 r1]
      · unfold f_X12_seen
        rw [dv_bn2 q_isAlong, if_pos hx, if_neg (by decide), dv_bn2 q_isAlong, if_pos hy, if_neg (by decide), dv_bn2 q_isSide, if_pos hs, if_pos (by decide), bq, bq, bq, bq, if_neg (by omega), dv_bn2 r2]
    case pos =>
      have hu : ∀ (U : dV) (j : Nat) (i v : Int), dv_u U (A 1) j i v (A 0) 0 0 = U (A 0) 0 0 := fun U j i v => u_b (inj_n hA (by decide) (by decide) (by decide))
      have h7 : ∀ (U : dV) (j : Nat) (i v : Int), j ≠ 7 → dv_u U (A 1) j i v (A 1) 7 0 = U (A 1) 7 0 := fun U j i v hj => u_j (Ne.symm hj)
      have eV : ∀ Z, f_X11_answer (dv_u (dv_u (dv_u (dv_u V (A 1) 2 (V (A 1) 7 0) x) (A 1) 3 (V (A 1) 7 0) y) (A 1) 4 (V (A 1) 7 0) s) (A 1) 7 0 (V (A 1) 7 0 + 1)) (A 0) (V (A 1) 7 0 + 1) = Z → f_X11_seen V (A 0) x y s = Z := by
        intro Z hZ
        unfold f_X11_seen
        rw [dv_bn2 c_onGrid, if_pos hx, if_neg (by decide), dv_bn2 c_onGrid, if_pos hy, if_neg (by decide), if_neg (by omega), if_pos (by omega), bq, g0, bq, if_pos e6]
        simp only [bq, g0, hu]
        rw [h7 _ _ _ _ (by decide), h7 _ _ _ _ (by decide), h7 _ _ _ _ (by decide), h7 _ _ _ _ (by decide), h7 _ _ _ _ (by decide), h7 _ _ _ _ (by decide), u_e, bq2, hZ]
      have eW : ∀ Z, f_X12_good (dv_u (dv_u (dv_u (dv_u W a 2 (47 + 3 * W a 2 70) x) a 2 (47 + 3 * W a 2 70 + 1) y) a 2 (47 + 3 * W a 2 70 + 2) s) a 2 70 (W a 2 70 + 1)) a (W a 2 70 + 1) = Z → f_X12_seen W a x y s = Z := by
        intro Z hZ
        unfold f_X12_seen
        rw [dv_bn2 q_isAlong, if_pos hx, if_neg (by decide), dv_bn2 q_isAlong, if_pos hy, if_neg (by decide), dv_bn2 q_isSide, if_pos hs, if_pos (by decide), bq, bq, bq, bq, if_pos (by omega), bq, bq, bq, bq, bq, bq, u_i (by omega), u_i (by omega), u_i (by omega), bq, bq, bq, u_e, bq2, hZ]
      have v7 : dv_u (dv_u (dv_u (dv_u V (A 1) 2 (V (A 1) 7 0) x) (A 1) 3 (V (A 1) 7 0) y) (A 1) 4 (V (A 1) 7 0) s) (A 1) 7 0 (V (A 1) 7 0 + 1) (A 1) 7 0 = V (A 1) 7 0 + 1 := u_e
      have vz : ∀ z, dv_u (dv_u (dv_u (dv_u V (A 1) 2 (V (A 1) 7 0) x) (A 1) 3 (V (A 1) 7 0) y) (A 1) 4 (V (A 1) 7 0) s) (A 1) 7 0 (V (A 1) 7 0 + 1) (A 1) 2 z = (if z = V (A 1) 7 0 then x else V (A 1) 2 z) ∧ dv_u (dv_u (dv_u (dv_u V (A 1) 2 (V (A 1) 7 0) x) (A 1) 3 (V (A 1) 7 0) y) (A 1) 4 (V (A 1) 7 0) s) (A 1) 7 0 (V (A 1) 7 0 + 1) (A 1) 3 z = (if z = V (A 1) 7 0 then y else V (A 1) 3 z) ∧ dv_u (dv_u (dv_u (dv_u V (A 1) 2 (V (A 1) 7 0) x) (A 1) 3 (V (A 1) 7 0) y) (A 1) 4 (V (A 1) 7 0) s) (A 1) 7 0 (V (A 1) 7 0 + 1) (A 1) 4 z = (if z = V (A 1) 7 0 then s else V (A 1) 4 z) := fun z => ⟨by rw [u_j (by decide), u_j (by decide), u_j (by decide), u_if], by rw [u_j (by decide), u_j (by decide), u_if, u_j (by decide)], by rw [u_j (by decide), u_if, u_j (by decide), u_j (by decide)]⟩
      have F : cf A (fun i m => i == 1 && (m == 2 || m == 3 || m == 4 || m == 7)) V (dv_u (dv_u (dv_u (dv_u V (A 1) 2 (V (A 1) 7 0) x) (A 1) 3 (V (A 1) 7 0) y) (A 1) 4 (V (A 1) 7 0) s) (A 1) 7 0 (V (A 1) 7 0 + 1)) := cf_t (cf_t (cf_t (cf_u hA (by decide) rfl) (cf_u hA (by decide) rfl)) (cf_u hA (by decide) rfl)) (cf_u hA (by decide) rfl)
      have w2 : ∀ z, dv_u (dv_u (dv_u (dv_u W a 2 (47 + 3 * W a 2 70) x) a 2 (47 + 3 * W a 2 70 + 1) y) a 2 (47 + 3 * W a 2 70 + 2) s) a 2 70 (W a 2 70 + 1) a 2 z = if z = 70 then W a 2 70 + 1 else if z = 47 + 3 * W a 2 70 + 2 then s else if z = 47 + 3 * W a 2 70 + 1 then y else if z = 47 + 3 * W a 2 70 then x else W a 2 z := fun z => by rw [u_if, u_if, u_if, u_if]
      have GW : wf a (fun m => m == 2) W (dv_u (dv_u (dv_u (dv_u W a 2 (47 + 3 * W a 2 70) x) a 2 (47 + 3 * W a 2 70 + 1) y) a 2 (47 + 3 * W a 2 70 + 2) s) a 2 70 (W a 2 70 + 1)) := wf_t (wf_t (wf_t (wf_u rfl) (wf_u rfl)) (wf_u rfl)) (wf_u rfl)
      generalize dv_u (dv_u (dv_u (dv_u V (A 1) 2 (V (A 1) 7 0) x) (A 1) 3 (V (A 1) 7 0) y) (A 1) 4 (V (A 1) 7 0) s) (A 1) 7 0 (V (A 1) 7 0 + 1) = V1 at eV v7 vz F
      generalize dv_u (dv_u (dv_u (dv_u W a 2 (47 + 3 * W a 2 70) x) a 2 (47 + 3 * W a 2 70 + 1) y) a 2 (47 + 3 * W a 2 70 + 2) s) a 2 70 (W a 2 70 + 1) = W1 at eW w2 GW
      have wn : ∀ z, z ≠ 70 → ¬ (47 + 3 * W a 2 70 ≤ z ∧ z < 50 + 3 * W a 2 70) → W1 a 2 z = W a 2 z := fun z n1 n2 => by rw [w2, if_neg n1, if_neg (by omega), if_neg (by omega), if_neg (by omega)]
      have R : RR A a V1 W1 := by
        refine RR_st h (cf_m F (fun i m hL => ?_)) GW (fun z hz => wn z (by omega) (by omega)) ⟨?_, ?_, fun z z0 z1 => ?_⟩ (laR_c (by decide) k3 (cf_ag F rfl) (fun z hz => by rw [Int.zero_add]; exact wn z (by omega) (by omega)))
        · by_cases e1 : i = 1
          · subst e1
            have hm : ¬ 2 ≤ m := by intro q; simp [q] at hL
            simp; omega
          · simp [e1]
        · rw [v7, Int.zero_add, w2, if_pos rfl, s1]
        · rw [v7]; omega
        · rw [v7] at z1
          obtain ⟨q2, q3, q4⟩ := vz z
          rw [q2, q3, q4, Int.zero_add, Int.zero_add, Int.zero_add, w2, w2, w2]
          by_cases e1 : z = V (A 1) 7 0
          · rw [if_pos e1, if_pos e1, if_pos e1, if_neg (by omega), if_neg (by omega), if_neg (by omega), if_pos (by omega), if_neg (by omega), if_neg (by omega), if_pos (by omega), if_neg (by omega), if_pos (by omega)]
            exact ⟨rfl, rfl, rfl⟩
          · rw [if_neg e1, if_neg e1, if_neg e1, if_neg (by omega), if_neg (by omega), if_neg (by omega), if_neg (by omega), if_neg (by omega), if_neg (by omega), if_neg (by omega), if_neg (by omega), if_neg (by omega), if_neg (by omega), if_neg (by omega), if_neg (by omega)]
            have := s3 z z0 (by show z < V (A 1) 7 0; omega)
            rw [Int.zero_add, Int.zero_add, Int.zero_add] at this
            exact this
      obtain ⟨V2, W2, r1, r2, r3⟩ := RR_good (t := V (A 1) 7 0 + 1) R (by omega)
      exact ⟨V2, W2, _, eV _ r1, eW _ (by rw [← s1]; exact r2), r3⟩
end QSR
section QSS
variable {V V' V0 V1 V2 W W' W0 W1 W2 : dV} {a b b' c z t k s p x y n L i j u o N : Int} {A : Nat → Int} {K K' : Int → Int}
theorem txR_k {x x' t : Int} (h : txR x V K b t) (h0 : ∀ z, z < V x 2 0 → V' x' 0 z = V x 0 z) (h1 : ∀ z, 0 ≤ z → z < V x 3 0 * 8 → V' x' 1 z = V x 1 z) (h2 : V' x' 2 0 = V x 2 0) (h3 : V' x' 3 0 = V x 3 0) (e : K' (b' + (73 + t)) = K (b + (73 + t))) (hc : ∀ i, 0 ≤ i → i < 400 → K' (b' + (80 + 400 * t + i)) = K (b + (80 + 400 * t + i)) ∧ K' (b' + (2880 + 400 * t + i)) = K (b + (2880 + 400 * t + i))) : txR x' V' K' b' t := by
  obtain ⟨k1, k2, k3⟩ := h
  refine ⟨by rw [h2]; exact k1, by rw [e]; exact k2, ?_⟩
  rw [h2, h3, e]
  have g : cg (K (b + (73 + t))) (tcd K b t) (tvl K b t) (tcd K' b' t) (tvl K' b' t) := by
    refine ⟨fun z z0 z1 => ?_, fun z z0 z1 => ?_⟩
    · unfold tcd
      rw [e]
      by_cases q : z < K (b + (73 + t))
      · rw [if_pos q, if_pos q]; exact (hc z z0 (by omega)).1
      · rw [if_neg q, if_neg q]
    · unfold tvl; exact (hc z z0 (by omega)).2
  exact cg_tx g (tx_ok_c h0 h1 (Int.le_refl _) k3)
/-- the reference lays a text down -/
theorem m_lays (hN : 0 ≤ W a 18 0 ∧ W a 18 0 ≤ 400) (ht : 0 ≤ t ∧ t ≤ 6) : ∃ W', f_X12_lays W a t = (W', 0) ∧ (∀ b m z, ¬ (b = a ∧ m = 2) → W' b m z = W b m z) ∧ W' a 2 (73 + t) = W a 18 0 ∧ (∀ i, 0 ≤ i → i < W a 18 0 → W' a 2 (80 + 400 * t + i) = W a 15 i ∧ W' a 2 (2880 + 400 * t + i) = W a 16 i) ∧ ∀ z, z ≠ 73 + t → ¬ (80 + 400 * t ≤ z ∧ z < 480 + 400 * t) → ¬ (2880 + 400 * t ≤ z ∧ z < 3280 + 400 * t) → W' a 2 z = W a 2 z := by
  unfold f_X12_lays
  rw [bq, bq, bq]
  refine dv_inv (P := fun s => ∃ (U : dV) (j : Int), s = (U, a, t, j) ∧ 0 ≤ j ∧ j ≤ W a 18 0 ∧ (∀ b m z, ¬ (b = a ∧ m = 2) → U b m z = W b m z) ∧ U a 2 (73 + t) = W a 18 0 ∧ (∀ i, 0 ≤ i → i < j → U a 2 (80 + 400 * t + i) = W a 15 i ∧ U a 2 (2880 + 400 * t + i) = W a 16 i) ∧ ∀ z, z ≠ 73 + t → ¬ (80 + 400 * t ≤ z ∧ z < 480 + 400 * t) → ¬ (2880 + 400 * t ≤ z ∧ z < 3280 + 400 * t) → U a 2 z = W a 2 z) (Q := fun q => ∃ W' : dV, q = (W', 0) ∧ (∀ b m z, ¬ (b = a ∧ m = 2) → W' b m z = W b m z) ∧ W' a 2 (73 + t) = W a 18 0 ∧ (∀ i, 0 ≤ i → i < W a 18 0 → W' a 2 (80 + 400 * t + i) = W a 15 i ∧ W' a 2 (2880 + 400 * t + i) = W a 16 i) ∧ ∀ z, z ≠ 73 + t → ¬ (80 + 400 * t ≤ z ∧ z < 480 + 400 * t) → ¬ (2880 + 400 * t ≤ z ∧ z < 3280 + 400 * t) → W' a 2 z = W a 2 z) (m := fun s => (W a 18 0 - s.2.2.2).toNat) ?_ _ ⟨_, 0, rfl, by omega, hN.1, fun b m z hb => ?_, u_e, fun i i0 i1 => absurd i1 (by omega), fun z z1 _ _ => u_i z1⟩
  · rintro q ⟨U, j, rfl, j0, j1, hf, h73, hi, hz⟩
    have u18 : U a 18 0 = W a 18 0 := hf a 18 0 (fun q => absurd q.2 (by decide))
    have u15 : ∀ z, U a 15 z = W a 15 z := fun z => hf a 15 z (fun q => absurd q.2 (by decide))
    have u16 : ∀ z, U a 16 z = W a 16 z := fun z => hf a 16 z (fun q => absurd q.2 (by decide))
    rw [f_X12_lays_15e]
    unfold f_X12_lays_15c
    rw [bq, u18]
    by_cases e : W a 18 0 ≤ j
    · rw [if_pos e]
      exact Or.inr ⟨_, rfl, U, rfl, hf, h73, fun i i0 i1 => hi i i0 (by omega), hz⟩
    · rw [if_neg e, bq, bq, bq, bq, bq, bq, bq, bq, bq, bq, bq, u_j (show (16 : Nat) ≠ 2 by decide), u15, u16]
      have g2 : ∀ z v w, dv_u (dv_u U a 2 (80 + 400 * t + j) v) a 2 (2880 + 400 * t + j) w a 2 z = if z = 2880 + 400 * t + j then w else if z = 80 + 400 * t + j then v else U a 2 z := fun z v w => by rw [u_if, u_if]
      refine Or.inl ⟨_, rfl, ⟨_, j + 1, rfl, by omega, by omega, fun b m z hb => ?_, ?_, fun i i0 i1 => ?_, fun z z1 z2 z3 => ?_⟩, by dsimp only; omega⟩
      · by_cases q : b = a
        · have q2 : m ≠ 2 := fun w => hb ⟨q, w⟩
          rw [u_j q2, u_j q2]; exact hf b m z hb
        · rw [u_b q, u_b q]; exact hf b m z hb
      · rw [g2, if_neg (by omega), if_neg (by omega), h73]
      · rw [g2, g2]
        by_cases q : i = j
        · rw [q, if_neg (by omega), if_pos rfl, if_pos rfl]; exact ⟨rfl, rfl⟩
        · rw [if_neg (by omega), if_neg (by omega), if_neg (by omega), if_neg (by omega)]; exact hi i i0 (by omega)
      · rw [g2, if_neg (by omega), if_neg (by omega)]; exact hz z z1 z2 z3
  · by_cases q : b = a
    · exact u_j (fun w => hb ⟨q, w⟩)
    · exact u_b q
/-- a text was read, and the tape is empty -/
theorem RR_read {J : Nat} (h : RR A a V W) (hJ : J = 11 ∨ (20 ≤ J ∧ J < 26 ∧ V (A 1) 5 0 ≤ (J : Int) - 20)) (f : rw_f (A 10) (A J) V V1) (g : rm_f a W W1) (h13 : W1 a 13 0 = 0) (h14 : W1 a 14 0 = y) (hpl : ∀ z, V1 (A 10) 1 z = W1 a 17 z) : RR A a (dv_u (dv_u V1 (A 0) 15 0 y) (A 9) 1 0 0) W1 := by
  have hA := h.1
  obtain ⟨-, h2, ⟨k1, k2, k3⟩, h4, h5, h6, h7, h8, h9, h10⟩ := id h
  have J38 : J < 38 := by omega
  have F : cf A (fun i m => i == 10 || (i == J && m ≤ 3) || (i == 0 && m == 15) || (i == 9 && m == 1)) V (dv_u (dv_u V1 (A 0) 15 0 y) (A 9) 1 0 0) := by
    refine cf_t (cf_t (fun i m z hi hm hL => ?_) (cf_u hA (by decide) (by simp))) (cf_u hA (by decide) (by simp))
    simp only [Bool.or_eq_false_iff, Bool.and_eq_false_iff, beq_eq_false_iff_ne, decide_eq_false_iff_not, ne_eq] at hL
    refine f (A i) m z (fun q => ?_) (fun q => ?_)
    · have := hA.1 i 10 hi (by decide) q.1; omega
    · have := hA.1 i J hi J38 q.1; omega
  have GW : wf a (fun m => (8 ≤ m && m ≤ 10) || (13 ≤ m && m ≤ 21)) W W1 := fun m z hm => by
    simp only [Bool.or_eq_false_iff, Bool.and_eq_false_iff, decide_eq_false_iff_not] at hm
    exact g a m z (fun q => by have := q.2; omega)
  have ap : ∀ D : Nat → Nat → Bool, (∀ i m, D i m = true → ¬ (i = 10 ∨ (i = J ∧ m ≤ 3) ∨ (i = 0 ∧ m = 15) ∨ (i = 9 ∧ m = 1))) → ag A D V (dv_u (dv_u V1 (A 0) 15 0 y) (A 9) 1 0 0) := fun D hD i m z hi hm hd => F i m z hi hm (by
    have := hD i m hd
    simp only [Bool.or_eq_false_iff, Bool.and_eq_false_iff, beq_eq_false_iff_ne, decide_eq_false_iff_not, ne_eq]
    omega)
  have w2 : ∀ z, W1 a 2 z = W a 2 z := fun z => GW 2 z rfl
  refine ⟨hA, G_c h2 (ap _ (fun i m hd => ?_)), ⟨flR_c k1 (fun j c hj hj6 => ((ap (fun i _ => i == 4) (fun i m hd => ?_)) 4 j c (by decide) (by omega) rfl).symm) (fun z _ => w2 _), seR_c k2 ((ap (fun i _ => i == 1) (fun i m hd => ?_)) 1 7 0 (by decide) (by decide) rfl) (fun z _ _ => ⟨(ap (fun i _ => i == 1) (fun i m hd => ?_)) 1 2 z (by decide) (by decide) rfl, (ap (fun i _ => i == 1) (fun i m hd => ?_)) 1 3 z (by decide) (by decide) rfl, (ap (fun i _ => i == 1) (fun i m hd => ?_)) 1 4 z (by decide) (by decide) rfl⟩) (fun z _ => w2 _), ?_⟩, imR_c h4 (ap _ (fun i m hd => ?_)) (fun z => GW 3 z rfl) (fun z => GW 4 z rfl), ⟨by rw [u_e, h13], by rw [h13]; decide, fun z z0 z1 => absurd z1 (by rw [h13]; omega)⟩, psR_c h6 (ap _ (fun i m hd => ?_)) (fun z => GW 31 z rfl) (GW 33 0 rfl), ppR_c h7 (ap _ (fun i m hd => ?_)) (fun z => GW 54 z rfl) (GW 55 0 rfl), miR_c h8 (ap _ (fun i m hd => ?_)) (GW 0 0 rfl) (fun z => GW 1 z rfl), ⟨?_, ?_, ?_⟩, ?_, fun z z0 z1 => ?_, fun k k8 k23 => ?_⟩
  · unfold G_D at hd; simp at hd; omega
  · simp at hd; omega
  · simp at hd; omega
  · simp at hd; omega
  · simp at hd; omega
  · simp at hd; omega
  · obtain ⟨l1, l2, l3, l4, l5⟩ := k3
    have e5 := (ap (fun i _ => i == 1) (fun i m hd => by simp at hd; omega)) 1 5 0 (by decide) (by decide) rfl
    have e6 := (ap (fun i _ => i == 1) (fun i m hd => by simp at hd; omega)) 1 6 0 (by decide) (by decide) rfl
    have l2' : 0 ≤ V (A 1) 5 0 ∧ V (A 1) 5 0 ≤ 6 := l2
    refine ⟨(e5.trans l1).trans (w2 _).symm, by rw [show A (1 + 0) = A 1 from rfl, e5]; exact l2', (e6.trans l3).trans (w2 _).symm, ?_, fun t ht => ?_⟩
    · rw [show A (1 + 0) = A 1 from rfl, e5, e6]; exact l4
    · rw [show A (1 + 0) = A 1 from rfl, e5] at ht
      have et : ∀ (m : Nat) (z : Int), m ≤ 3 → dv_u (dv_u V1 (A 0) 15 0 y) (A 9) 1 0 0 (A (20 + 6 * 0 + t)) m z = V (A (20 + 6 * 0 + t)) m z := fun m z hm => (ap (fun i _ => i == 20 + 6 * 0 + t) (fun i m hd => by simp at hd; omega)) _ m z (by omega) (by omega) (by simp)
      exact txR_k (l5 t ht) (fun z _ => et 0 z (by decide)) (fun z _ _ => et 1 z (by decide)) (et 2 0 (by decide)) (et 3 0 (by decide)) (w2 _) (fun i _ _ => ⟨w2 _, w2 _⟩)
  · unfold im_D st_D la_D at hd; simp at hd; omega
  · unfold ps_D at hd; simp at hd; omega
  · unfold pp_D at hd; simp at hd; omega
  · unfold mi_D at hd; simp at hd; omega
  · rw [u_b (inj_n hA (by decide) (by decide) (by decide)), u_e, h14]
  · rw [(ap (fun i m => i == 0 && m == 16) (fun i m hd => by simp at hd; omega)) 0 16 0 (by decide) (by decide) rfl, GW 6 0 rfl]; exact h9.2.1
  · rw [(ap (fun i m => i == 0 && m == 17) (fun i m hd => by simp at hd; omega)) 0 17 0 (by decide) (by decide) rfl, GW 47 0 rfl]; exact h9.2.2
  · intro z
    rw [u_b (inj_n hA (by decide) (by decide) (by decide)), u_b (inj_n hA (by decide) (by decide) (by decide))]; exact hpl z
  · rw [GW 7 z rfl]; exact h10.2.1 z z0 z1
  · rw [(ap (fun i m => i == 14) (fun i m hd => by simp at hd; omega)) 14 1 k (by decide) (by decide) rfl]; exact h10.2.2 k k8 k23
end QSS
section QST
variable {V V' V0 V1 V2 W W' W0 W1 W2 : dV} {a b b' c z t k s p x y n L i j u o N : Int} {A : Nat → Int} {K K' : Int → Int}
theorem L_law (h : RR A a V W) : ∃ V' W' u, f_X11_law V (A 0) = (V', u) ∧ f_X12_law W a = (W', u) ∧ RR A a V' W' := by
  have hA := h.1
  obtain ⟨g0, g1, g10, g5, -⟩ := RR_G h
  obtain ⟨-, ⟨⟨-, -, -, -, -, -, gr, -⟩, -, -, gk⟩, ⟨-, -, k3⟩, -, ⟨t1, t2, t3⟩, -, -, -, -, r1, r2, r3⟩ := id h
  have l1 : V (A 1) 5 0 = W a 2 71 := by have := k3.1; rw [Int.zero_add] at this; exact this
  have l2 : 0 ≤ V (A 1) 5 0 ∧ V (A 1) 5 0 ≤ 6 := k3.2.1
  by_cases e6 : V (A 1) 5 0 < 6
  case neg =>
    have R : RR A a (dv_u V (A 9) 1 0 0) (dv_u W a 13 0 0) := RR_tp h (cf_u hA (by decide) rfl) (wf_u rfl) ⟨by rw [u_e, u_e], by rw [u_e]; decide, fun z z0 z1 => absurd z1 (by rw [u_e]; omega)⟩
    obtain ⟨V2, W2, r1, r2, r3⟩ := RR_bad (k := -5) R (Or.inr (Or.inr (Or.inr (Or.inl ⟨rfl, rfl, rfl⟩))))
    refine ⟨V2, W2, -5, ?_, ?_, r3⟩
    · unfold f_X11_law
      rw [bq, g0, bq, if_neg e6, bq, g5, bq, dv_bn2 r1]
    · unfold f_X12_law
      rw [bq, if_neg (by omega), bq, dv_bn2 r2]
  case pos =>
    obtain ⟨n, hn⟩ : ∃ n : Nat, (n : Int) = V (A 1) 5 0 := ⟨(V (A 1) 5 0).toNat, by omega⟩
    have gx : V (A 1) 1 (V (A 1) 5 0) = A (20 + n) := by
      have := (gk 0 (by decide)).2 n (by omega)
      rw [hn] at this
      exact this
    have hJ : 20 + n < 38 := by omega
    obtain ⟨V1, y, W1, y', e1, e2, f1, f2, f3, f4, f5, f6⟩ := rd_whole (V := V) (W := W) (r := A 10) (x := A (20 + n)) (tp := A 9) (o := 0) (a := a) (inj_n hA hJ (by decide) (by omega)) (inj_n hA (by decide) (by decide) (by decide)) (inj_n hA (by decide) hJ (by omega)) (Or.inl rfl) t1 t2 t3 r2 r1
    have p0 : ∀ m z, V1 (A 0) m z = V (A 0) m z := fun m z => f1 _ m z (fun q => inj_n hA (by decide) (by decide) (by decide) q.1) (fun q => inj_n hA (by decide) hJ (by omega) q.1)
    have p1 : ∀ m z, V1 (A 1) m z = V (A 1) m z := fun m z => f1 _ m z (fun q => inj_n hA (by decide) (by decide) (by decide) q.1) (fun q => inj_n hA (by decide) hJ (by omega) q.1)
    have R := RR_read (J := 20 + n) h (Or.inr ⟨by omega, by omega, by omega⟩) f1 f2 f3 f4 f5
    have c5 : dv_u V1 (A 0) 15 0 y (A 0) 5 0 = A 9 := by rw [u_j (by decide), p0, g5]
    have c0 : dv_u (dv_u V1 (A 0) 15 0 y) (A 9) 1 0 0 (A 0) 0 0 = A 1 := by rw [u_b (inj_n hA (by decide) (by decide) (by decide)), u_j (by decide), p0, g0]
    have c15 : dv_u (dv_u V1 (A 0) 15 0 y) (A 9) 1 0 0 (A 0) 15 0 = y := by rw [u_b (inj_n hA (by decide) (by decide) (by decide)), u_e]
    have c15x : ∀ z, dv_u (dv_u V1 (A 0) 15 0 y) (A 9) 1 0 0 (A 1) 5 z = V (A 1) 5 z := fun z => by rw [u_b (inj_n hA (by decide) (by decide) (by decide)), u_b (inj_n hA (by decide) (by decide) (by decide)), p1]
    have cx : ∀ m z, dv_u (dv_u V1 (A 0) 15 0 y) (A 9) 1 0 0 (A (20 + n)) m z = V1 (A (20 + n)) m z := fun m z => by rw [u_b (inj_n hA hJ (by decide) (by omega)), u_b (inj_n hA hJ (by decide) (by omega))]
    have eV : ∀ Z, (if y = -1 then (dv_b (V (A 1) 5 0 + 1) fun x19 => dv_b (dv_u (dv_u (dv_u V1 (A 0) 15 0 y) (A 9) 1 0 0) (A 1) 5 0 x19) fun V91 => dv_b (V91 (A 0) 0 0) fun zz12 => dv_b (V91 zz12 5 0) fun zz13 => dv_b (zz13 - 1) fun x24 => dv_b2 (f_X11_answer V91 (A 0) x24) fun V104 x25 => (V104, x25)) else dv_b2 (f_X11_answer (dv_u (dv_u V1 (A 0) 15 0 y) (A 9) 1 0 0) (A 0) (-6)) fun V77 x30 => (V77, x30)) = Z → f_X11_law V (A 0) = Z := by
      intro Z hZ
      unfold f_X11_law
      rw [bq, g0, bq, if_pos e6, bq, gr, bq, g5, bq, bq, bq, bq, gx, dv_bn2 e1, bq, bq, c5, bq, bq, c15, c0, bq, bq, c15x]
      exact hZ
    by_cases ey : y = -1
    case neg =>
      rcases f6 with ⟨q, -⟩ | ⟨-, ey'⟩
      · exact absurd q ey
      obtain ⟨V2, W2, r1, r2, r3⟩ := RR_bad (k := -6) R (Or.inr (Or.inr (Or.inr (Or.inr ⟨rfl, rfl, rfl⟩))))
      refine ⟨V2, W2, -6, eV _ ?_, ?_, r3⟩
      · rw [if_neg ey, dv_bn2 r1]
      · unfold f_X12_law
        rw [bq, if_pos (by omega), dv_bn2 e2, if_neg (fun q => q ey'), dv_bn2 r2]
    case pos =>
      have f7 := f6.resolve_right (fun q => q.1 ey)
      obtain ⟨-, ey', hs0, hN, hE, hT⟩ := f7
      have w2 : ∀ z, W1 a 2 z = W a 2 z := fun z => f2 a 2 z (fun q => absurd q.2 (by omega))
      have w71 : W1 a 2 71 = V (A 1) 5 0 := by rw [w2, l1]
      obtain ⟨W2, m1, m2, m3, m4, m5⟩ := m_lays (W := W1) (a := a) (t := V (A 1) 5 0) hN (by omega)
      have m71 : W2 a 2 71 = V (A 1) 5 0 := by rw [m5 71 (by omega) (by omega) (by omega), w71]
      -- the new state
      have R2 : RR A a (dv_u (dv_u (dv_u V1 (A 0) 15 0 y) (A 9) 1 0 0) (A 1) 5 0 (V (A 1) 5 0 + 1)) (dv_u W2 a 2 71 (V (A 1) 5 0 + 1)) := by
        obtain ⟨-, -, ⟨-, K2, K3⟩, -⟩ := id R
        have kz : ∀ z, z < 73 → z ≠ 71 → dv_u W2 a 2 71 (V (A 1) 5 0 + 1) a 2 z = W1 a 2 z := fun z z1 z2 => by rw [u_i z2, m5 z (by omega) (by omega) (by omega)]
        refine RR_st R (cf_u hA (by decide) rfl) (wf_t (wf_b m2 rfl) (wf_u rfl)) (fun z hz => kz z (by omega) (by omega)) (seR_c K2 (u_j (by decide)) (fun z _ _ => ⟨u_j (by decide), u_j (by decide), u_j (by decide)⟩) (fun z hz => by rw [Int.zero_add]; exact kz z (by omega) (by omega))) ?_
        obtain ⟨q1, q2, q3, q4, q5⟩ := K3
        have q1 : dv_u (dv_u V1 (A 0) 15 0 y) (A 9) 1 0 0 (A 1) 5 0 = W1 a 2 71 := by have := q1; rw [Int.zero_add] at this; exact this
        have q3 : dv_u (dv_u V1 (A 0) 15 0 y) (A 9) 1 0 0 (A 1) 6 0 = W1 a 2 72 := by have := q3; rw [Int.zero_add] at this; exact this
        have q4 : -1 ≤ dv_u (dv_u V1 (A 0) 15 0 y) (A 9) 1 0 0 (A 1) 6 0 ∧ dv_u (dv_u V1 (A 0) 15 0 y) (A 9) 1 0 0 (A 1) 6 0 < dv_u (dv_u V1 (A 0) 15 0 y) (A 9) 1 0 0 (A 1) 5 0 := q4
        refine ⟨?_, ?_, ?_, ?_, fun t ht => ?_⟩
        · show dv_u (dv_u (dv_u V1 (A 0) 15 0 y) (A 9) 1 0 0) (A 1) 5 0 (V (A 1) 5 0 + 1) (A 1) 5 0 = dv_u W2 a 2 71 (V (A 1) 5 0 + 1) a 2 71
          rw [u_e, u_e]
        · show 0 ≤ dv_u (dv_u (dv_u V1 (A 0) 15 0 y) (A 9) 1 0 0) (A 1) 5 0 (V (A 1) 5 0 + 1) (A 1) 5 0 ∧ dv_u (dv_u (dv_u V1 (A 0) 15 0 y) (A 9) 1 0 0) (A 1) 5 0 (V (A 1) 5 0 + 1) (A 1) 5 0 ≤ 6
          rw [u_e]; omega
        · show dv_u (dv_u (dv_u V1 (A 0) 15 0 y) (A 9) 1 0 0) (A 1) 5 0 (V (A 1) 5 0 + 1) (A 1) 6 0 = dv_u W2 a 2 71 (V (A 1) 5 0 + 1) a 2 72
          rw [u_j (by decide), q3, kz 72 (by decide) (by decide)]
        · show -1 ≤ dv_u (dv_u (dv_u V1 (A 0) 15 0 y) (A 9) 1 0 0) (A 1) 5 0 (V (A 1) 5 0 + 1) (A 1) 6 0 ∧ dv_u (dv_u (dv_u V1 (A 0) 15 0 y) (A 9) 1 0 0) (A 1) 5 0 (V (A 1) 5 0 + 1) (A 1) 6 0 < dv_u (dv_u (dv_u V1 (A 0) 15 0 y) (A 9) 1 0 0) (A 1) 5 0 (V (A 1) 5 0 + 1) (A 1) 5 0
          rw [u_j (by decide), u_e]
          rw [c15x] at q4
          omega
        · have ht : (t : Int) < dv_u (dv_u (dv_u V1 (A 0) 15 0 y) (A 9) 1 0 0) (A 1) 5 0 (V (A 1) 5 0 + 1) (A 1) 5 0 := ht
          rw [u_e] at ht
          have vt : ∀ m z, dv_u (dv_u (dv_u V1 (A 0) 15 0 y) (A 9) 1 0 0) (A 1) 5 0 (V (A 1) 5 0 + 1) (A (20 + 6 * 0 + t)) m z = dv_u (dv_u V1 (A 0) 15 0 y) (A 9) 1 0 0 (A (20 + 6 * 0 + t)) m z := fun m z => u_b (inj_n hA (by omega) (by decide) (by omega))
          by_cases et : (t : Int) = V (A 1) 5 0
          · have tn : t = n := by omega
            subst tn
            have k73 : dv_u W2 a 2 71 (V (A 1) 5 0 + 1) a 2 (0 + (73 + (t : Int))) = W1 a 18 0 := by rw [Int.zero_add, u_i (by omega), et, m3]
            have ex : A (20 + 6 * 0 + t) = A (20 + t) := by rw [show 20 + 6 * 0 + t = 20 + t by omega]
            have vx : ∀ m z, dv_u (dv_u (dv_u V1 (A 0) 15 0 y) (A 9) 1 0 0) (A 1) 5 0 (V (A 1) 5 0 + 1) (A (20 + t)) m z = V1 (A (20 + t)) m z := fun m z => by rw [← ex, vt, ex, cx]
            rw [ex]
            refine ⟨by rw [vx]; exact hs0, by rw [k73]; exact hN, ?_⟩
            rw [k73, vx, vx, show dv_u (dv_u (dv_u V1 (A 0) 15 0 y) (A 9) 1 0 0) (A 1) 5 0 (V (A 1) 5 0 + 1) (A (20 + t)) 0 = V1 (A (20 + t)) 0 from funext (vx 0), show dv_u (dv_u (dv_u V1 (A 0) 15 0 y) (A 9) 1 0 0) (A 1) 5 0 (V (A 1) 5 0 + 1) (A (20 + t)) 1 = V1 (A (20 + t)) 1 from funext (vx 1)]
            refine cg_tx ⟨fun z z0 z1 => ?_, fun z z0 z1 => ?_⟩ hT
            · unfold tcd
              rw [k73]
              by_cases q : z < W1 a 18 0
              · rw [if_pos q, Int.zero_add, u_i (by omega), et]; exact (m4 z z0 q).1
              · rw [if_neg q, show z = W1 a 18 0 by omega]
                exact hE.symm
            · unfold tvl
              rw [Int.zero_add, u_i (by omega), et]; exact (m4 z z0 z1).2
          · refine txR_k (q5 t ?_) (fun z _ => vt 0 z) (fun z _ _ => vt 1 z) (vt 2 0) (vt 3 0) ?_ (fun i i0 i1 => ⟨?_, ?_⟩)
            · show (t : Int) < dv_u (dv_u V1 (A 0) 15 0 y) (A 9) 1 0 0 (A 1) 5 0
              rw [c15x]; omega
            · rw [u_i (by omega), m5 _ (by omega) (by omega) (by omega)]
            · rw [u_i (by omega), m5 _ (by omega) (by omega) (by omega)]
            · rw [u_i (by omega), m5 _ (by omega) (by omega) (by omega)]
      obtain ⟨V3, W3, r1, r2, r3⟩ := RR_good (t := V (A 1) 5 0) R2 l2.1
      refine ⟨V3, W3, V (A 1) 5 0, eV _ ?_, ?_, r3⟩
      · rw [if_pos ey, bq, bq, bq, u_b (inj_n hA (by decide) (by decide) (by decide)), c0, bq, u_e, bq, show V (A 1) 5 0 + 1 - 1 = V (A 1) 5 0 by omega, dv_bn2 r1]
      · unfold f_X12_law
        rw [bq, if_pos (by omega), dv_bn2 e2, if_pos (by rw [ey']; decide), bq, w71, dv_bn2 m1, bq, m71, bq, bq, bq, u_e, bq, show V (A 1) 5 0 + 1 - 1 = V (A 1) 5 0 by omega, dv_bn2 r2]
end QST
section QSU
variable {V V' V0 V1 V2 U W W' W0 W1 W2 : dV} {a b b' c z t k s p x y n i u o N B oa ob sp dp fl pa : Int} {A : Nat → Int} {K K' : Int → Int} {φ ψ : Nat → Int → Int} {j ja jb m : Nat}
theorem cp_in (h : dp ≤ z ∧ z < dp + n) : dv_c V oa ja sp ob jb dp n ob jb z = V oa ja (sp + (z - dp)) := by
  unfold dv_c; rw [if_pos ⟨rfl, rfl, h.1, h.2⟩]
theorem cp_out (h : ¬ (dp ≤ z ∧ z < dp + n)) : dv_c V oa ja sp ob jb dp n b m z = V b m z := by
  unfold dv_c; rw [if_neg (fun q => h q.2.2)]
theorem cp_b (h : b ≠ ob) : dv_c V oa ja sp ob jb dp n b m z = V b m z := by
  unfold dv_c; rw [if_neg (fun q => h q.1)]
theorem cp_j (h : m ≠ jb) : dv_c V oa ja sp ob jb dp n b m z = V b m z := by
  unfold dv_c; rw [if_neg (fun q => h q.2.1)]
theorem kg_9 (g : kgf φ) (h : ∀ c, 0 ≤ c → c < 9 → ψ 0 c = φ 0 c ∧ ψ 1 c = φ 1 c ∧ ψ 2 c = φ 2 c ∧ ψ 3 c = φ 3 c ∧ ψ 4 c = φ 4 c) (h5 : ψ 5 0 = φ 5 0 ∧ ψ 5 1 = φ 5 1 ∧ ψ 5 2 = φ 5 2) (h7 : ψ 7 0 = φ 7 0) (h8 : ψ 8 0 = φ 8 0) (h9 : ψ 9 0 = φ 9 0) (h10 : ψ 10 0 = φ 10 0) : kgf ψ := by
  obtain ⟨⟨b7, b8, b9, bc⟩, gd, gs, gl, gw, gp, gy, gm, gz⟩ := g
  have hc : ∀ c px py, 0 ≤ c → c < φ 7 0 → cov ψ c px py → cov φ c px py := fun c px py c0 c1 => by
    obtain ⟨e0, -, -, e3, e4⟩ := h c c0 (by omega)
    unfold cov
    rw [e0, e3, e4]
    exact id
  refine ⟨⟨by rw [h7]; exact b7, by rw [h8]; exact b8, by rw [h9]; exact b9, fun c c0 c1 => ?_⟩, fun c d px py c0 c1 d0 d1 kc kd => gd c d px py c0 (by omega) d0 (by omega) (hc c px py c0 (by omega) kc) (hc d px py d0 (by omega) kd), fun c c0 c1 => ?_, fun c c0 c1 hx => ?_, by rw [h8, h9]; exact gw, by rw [h10]; exact gp, by rw [h5.1]; exact gy, by rw [h5.2.1]; exact gm, by rw [h5.2.2]; exact gz⟩
  · obtain ⟨e0, -, -, e3, e4⟩ := h c c0 (by omega)
    rw [e0, e3, e4]; exact bc c c0 (by omega)
  · obtain ⟨e0, e1, e2, -, -⟩ := h c c0 (by omega)
    rw [e0, e1, e2]; exact gs c c0 (by omega)
  · obtain ⟨e0, -, -, e3, e4⟩ := h c c0 (by omega)
    rw [e3] at hx
    rw [e0, e3, e4, h8, h9]; exact gl c c0 (by omega) hx
/-- a step is noted from B on -/
theorem c_noteB (hf : fl ≠ pa) : ∃ V' : dV, dv_c (dv_c (dv_c (dv_u (dv_u (dv_u U pa 0 B k) pa 0 (B + 1) (U fl 10 0)) pa 0 (B + 2) (U fl 5 0)) fl 3 0 pa 0 (B + 3) 9) fl 4 0 pa 0 (B + 3 + 9) 9) fl 2 0 pa 0 (B + 3 + 18) 9 = V' ∧ (∀ b m z, ¬ (b = pa ∧ m = 0) → V' b m z = U b m z) ∧ (∀ z, ¬ (B ≤ z ∧ z < B + 30) → V' pa 0 z = U pa 0 z) ∧ V' pa 0 B = k ∧ V' pa 0 (B + 1) = U fl 10 0 ∧ V' pa 0 (B + 2) = U fl 5 0 ∧ ∀ c, 0 ≤ c → c < 9 → V' pa 0 (B + (3 + c)) = U fl 3 c ∧ V' pa 0 (B + (12 + c)) = U fl 4 c ∧ V' pa 0 (B + (21 + c)) = U fl 2 c := by
  refine ⟨_, rfl, fun b m z h => ?_, fun z h => ?_, ?_, ?_, ?_, fun c c0 c9 => ⟨?_, ?_, ?_⟩⟩
  · by_cases e : b = pa
    · have e1 : m ≠ 0 := fun q => h ⟨e, q⟩
      rw [cp_j e1, cp_j e1, cp_j e1, u_j e1, u_j e1, u_j e1]
    · rw [cp_b e, cp_b e, cp_b e, u_b e, u_b e, u_b e]
  · rw [cp_out (by omega), cp_out (by omega), cp_out (by omega), u_i (by omega), u_i (by omega), u_i (by omega)]
  · rw [cp_out (by omega), cp_out (by omega), cp_out (by omega), u_i (by omega), u_i (by omega), u_e]
  · rw [cp_out (by omega), cp_out (by omega), cp_out (by omega), u_i (by omega), u_e]
  · rw [cp_out (by omega), cp_out (by omega), cp_out (by omega), u_e]
  · rw [cp_out (by omega), cp_out (by omega), cp_in (by omega), u_b hf, u_b hf, u_b hf, show (0 : Int) + (B + (3 + c) - (B + 3)) = c by omega]
  · rw [cp_out (by omega), cp_in (by omega), cp_b hf, u_b hf, u_b hf, u_b hf, show (0 : Int) + (B + (12 + c) - (B + 3 + 9)) = c by omega]
  · rw [cp_in (by omega), cp_b hf, cp_b hf, u_b hf, u_b hf, u_b hf, show (0 : Int) + (B + (21 + c) - (B + 3 + 18)) = c by omega]
/-- what there was, without the eldest if there are sixteen -/
theorem c_note (hf : fl ≠ pa) (hn : 0 ≤ V pa 4 0 ∧ V pa 4 0 ≤ 16) : ∃ (V' : dV) (n d : Int), f_X4_note V pa k fl = (V', 0) ∧ ((V pa 4 0 < 16 ∧ n = V pa 4 0 ∧ d = 0) ∨ (V pa 4 0 = 16 ∧ n = 15 ∧ d = 30)) ∧ (∀ b m z, ¬ (b = pa ∧ (m = 0 ∨ m = 4)) → V' b m z = V b m z) ∧ V' pa 4 0 = n + 1 ∧ (∀ z, 0 ≤ z → z < 30 * n → V' pa 0 z = V pa 0 (z + d)) ∧ V' pa 0 (30 * n) = k ∧ V' pa 0 (30 * n + 1) = V fl 10 0 ∧ V' pa 0 (30 * n + 2) = V fl 5 0 ∧ ∀ c, 0 ≤ c → c < 9 → V' pa 0 (30 * n + (3 + c)) = V fl 3 c ∧ V' pa 0 (30 * n + (12 + c)) = V fl 4 c ∧ V' pa 0 (30 * n + (21 + c)) = V fl 2 c := by
  have ub : ∀ (X : dV) (j' : Nat) (i v : Int) (m' : Nat) (z : Int), dv_u X pa j' i v fl m' z = X fl m' z := fun X j' i v m' z => u_b hf
  unfold f_X4_note
  by_cases e : V pa 4 0 < 16
  · obtain ⟨V1, e1, f1, f2, f3, f4, f5, f6⟩ := c_noteB (U := V) (k := k) (B := V pa 4 0 * 30) hf
    have g4 : V1 pa 4 0 = V pa 4 0 := f1 pa 4 0 (fun q => absurd q.2 (by decide))
    refine ⟨dv_u V1 pa 4 0 (V pa 4 0 + 1), V pa 4 0, 0, ?_, Or.inl ⟨e, rfl, rfl⟩, fun b m z h => ?_, u_e, fun z z0 z1 => ?_, ?_, ?_, ?_, fun c c0 c9 => ?_⟩
    · rw [bq, if_pos e]
      simp only [bq, ub]
      rw [e1, g4]
    · by_cases eb : b = pa
      · rw [u_j (fun q => h ⟨eb, Or.inr q⟩)]; exact f1 b m z (fun q => h ⟨eb, Or.inl q.2⟩)
      · rw [u_b eb]; exact f1 b m z (fun q => eb q.1)
    · rw [u_j (by decide), f2 z (by omega), Int.add_zero]
    · rw [u_j (by decide), show 30 * V pa 4 0 = V pa 4 0 * 30 by omega]; exact f3
    · rw [u_j (by decide), show 30 * V pa 4 0 = V pa 4 0 * 30 by omega]; exact f4
    · rw [u_j (by decide), show 30 * V pa 4 0 = V pa 4 0 * 30 by omega]; exact f5
    · rw [u_j (by decide), u_j (by decide), u_j (by decide), show 30 * V pa 4 0 = V pa 4 0 * 30 by omega]; exact f6 c c0 c9
  · have hs : ∀ z, 0 ≤ z → z < 450 → dv_u (dv_c V pa 0 30 pa 0 0 450) pa 4 0 15 pa 0 z = V pa 0 (z + 30) := fun z z0 z1 => by
      rw [u_j (by decide), cp_in (by omega)]; congr 1; omega
    have hb : ∀ b m z, ¬ (b = pa ∧ (m = 0 ∨ m = 4)) → dv_u (dv_c V pa 0 30 pa 0 0 450) pa 4 0 15 b m z = V b m z := fun b m z h => by
      by_cases eb : b = pa
      · rw [u_j (fun q => h ⟨eb, Or.inr q⟩), cp_j (fun q => h ⟨eb, Or.inl q⟩)]
      · rw [u_b eb, cp_b eb]
    have h4 : dv_u (dv_c V pa 0 30 pa 0 0 450) pa 4 0 15 pa 4 0 = 15 := u_e
    have hfl : ∀ m z, dv_u (dv_c V pa 0 30 pa 0 0 450) pa 4 0 15 fl m z = V fl m z := fun m z => hb fl m z (fun q => hf q.1)
    obtain ⟨V1, e1, f1, f2, f3, f4, f5, f6⟩ := c_noteB (U := dv_u (dv_c V pa 0 30 pa 0 0 450) pa 4 0 15) (k := k) (B := 15 * 30) hf
    rw [hfl] at f4 f5
    refine ⟨dv_u V1 pa 4 0 (15 + 1), 15, 30, ?_, Or.inr ⟨by omega, rfl, rfl⟩, fun b m z h => ?_, u_e, fun z z0 z1 => ?_, ?_, ?_, ?_, fun c c0 c9 => ?_⟩
    · rw [bq, if_neg e]
      simp only [bq, ub]
      rw [← e1]
      simp only [ub]
    · by_cases eb : b = pa
      · rw [u_j (fun q => h ⟨eb, Or.inr q⟩), f1 b m z (fun q => h ⟨eb, Or.inl q.2⟩)]; exact hb b m z h
      · rw [u_b eb, f1 b m z (fun q => eb q.1)]; exact hb b m z h
    · rw [u_j (by decide), f2 z (by omega)]; exact hs z z0 (by omega)
    · rw [u_j (by decide)]; exact f3
    · rw [u_j (by decide)]; exact f4
    · rw [u_j (by decide)]; exact f5
    · rw [u_j (by decide), u_j (by decide), u_j (by decide), ← hfl 3, ← hfl 4, ← hfl 2]; exact f6 c c0 c9
/-- the reference notes -/
theorem m_54 (hn : 0 ≤ W a 33 0 ∧ W a 33 0 ≤ 15) : ∃ W', f_X12_keeps_52 W a k = (W', 0) ∧ (∀ b m z, ¬ (b = a ∧ (m = 31 ∨ m = 33)) → W' b m z = W b m z) ∧ W' a 33 0 = W a 33 0 + 1 ∧ (∀ z, 0 ≤ z → z < 30 * W a 33 0 → W' a 31 z = W a 31 z) ∧ W' a 31 (30 * W a 33 0 + 29) = k ∧ ∀ i, 0 ≤ i → i < 29 → W' a 31 (30 * W a 33 0 + i) = W a 2 i := by
  unfold f_X12_keeps_52
  refine dv_inv (P := fun q => ∃ (U : dV) (j : Int), q = (U, a, k, j) ∧ 0 ≤ j ∧ j ≤ 29 ∧ (∀ b m z, ¬ (b = a ∧ m = 31) → U b m z = W b m z) ∧ (∀ z, 0 ≤ z → z < 30 * W a 33 0 → U a 31 z = W a 31 z) ∧ ∀ i, 0 ≤ i → i < j → U a 31 (30 * W a 33 0 + i) = W a 2 i) (Q := fun q => ∃ W' : dV, q = (W', 0) ∧ (∀ b m z, ¬ (b = a ∧ (m = 31 ∨ m = 33)) → W' b m z = W b m z) ∧ W' a 33 0 = W a 33 0 + 1 ∧ (∀ z, 0 ≤ z → z < 30 * W a 33 0 → W' a 31 z = W a 31 z) ∧ W' a 31 (30 * W a 33 0 + 29) = k ∧ ∀ i, 0 ≤ i → i < 29 → W' a 31 (30 * W a 33 0 + i) = W a 2 i) (m := fun q => (29 - q.2.2.2).toNat) ?_ _ ⟨W, 0, rfl, by omega, by omega, fun _ _ _ _ => rfl, fun _ _ _ => rfl, fun i i0 i1 => absurd i1 (by omega)⟩
  rintro q ⟨U, j, rfl, j0, j1, hf, hz, hi⟩
  have u33 : U a 33 0 = W a 33 0 := hf a 33 0 (fun q => absurd q.2 (by decide))
  have u2 : ∀ z, U a 2 z = W a 2 z := fun z => hf a 2 z (fun q => absurd q.2 (by decide))
  rw [f_X12_keeps_54e]
  unfold f_X12_keeps_54c
  by_cases e : 29 ≤ j
  · rw [if_pos e, bq, u33, bq, bq, bq, bq, bq, bq, u_j (show (33 : Nat) ≠ 31 by decide), u33]
    refine Or.inr ⟨_, rfl, _, rfl, fun b m z h => ?_, u_e, fun z z0 z1 => ?_, ?_, fun i i0 i1 => ?_⟩
    · by_cases eb : b = a
      · rw [u_j (fun q => h ⟨eb, Or.inr q⟩), u_j (fun q => h ⟨eb, Or.inl q⟩)]; exact hf b m z (fun q => h ⟨eb, Or.inl q.2⟩)
      · rw [u_b eb, u_b eb]; exact hf b m z (fun q => eb q.1)
    · rw [u_j (by decide), u_i (by omega)]; exact hz z z0 z1
    · rw [u_j (by decide), u_e]
    · rw [u_j (by decide), u_i (by omega)]; exact hi i i0 (by omega)
  · rw [if_neg e, bq, u33, bq, bq, bq, u2, bq, bq]
    refine Or.inl ⟨_, rfl, ⟨_, j + 1, rfl, by omega, by omega, fun b m z h => ?_, fun z z0 z1 => ?_, fun i i0 i1 => ?_⟩, by dsimp only; omega⟩
    · by_cases eb : b = a
      · rw [u_j (fun q => h ⟨eb, q⟩)]; exact hf b m z h
      · rw [u_b eb]; exact hf b m z h
    · rw [u_i (by omega)]; exact hz z z0 z1
    · by_cases q : i = j
      · rw [q, u_e]
      · rw [u_i (by omega)]; exact hi i i0 (by omega)
theorem m_keeps (hn : 0 ≤ W a 33 0 ∧ W a 33 0 ≤ 16) : ∃ (W' : dV) (n d : Int), f_X12_keeps W a k = (W', 0) ∧ ((W a 33 0 < 16 ∧ n = W a 33 0 ∧ d = 0) ∨ (W a 33 0 = 16 ∧ n = 15 ∧ d = 30)) ∧ (∀ b m z, ¬ (b = a ∧ (m = 31 ∨ m = 33)) → W' b m z = W b m z) ∧ W' a 33 0 = n + 1 ∧ (∀ z, 0 ≤ z → z < 30 * n → W' a 31 z = W a 31 (z + d)) ∧ W' a 31 (30 * n + 29) = k ∧ ∀ i, 0 ≤ i → i < 29 → W' a 31 (30 * n + i) = W a 2 i := by
  unfold f_X12_keeps
  by_cases e : W a 33 0 = 16
  case neg =>
    obtain ⟨W', e1, e2, e3, e4, e5, e6⟩ := m_54 (W := W) (a := a) (k := k) (by omega)
    exact ⟨W', W a 33 0, 0, by rw [bq, if_pos e, e1], Or.inl ⟨by omega, rfl, rfl⟩, e2, e3, fun z z0 z1 => by rw [Int.add_zero]; exact e4 z z0 z1, e5, e6⟩
  case pos =>
    have L : ∃ U : dV, dv_lp f_X12_keeps_14b (W, a, k, 0) = f_X12_keeps_52 U a k ∧ (∀ b m z, ¬ (b = a ∧ (m = 31 ∨ m = 33)) → U b m z = W b m z) ∧ U a 33 0 = 15 ∧ ∀ z, 0 ≤ z → z < 450 → U a 31 z = W a 31 (z + 30) := by
      refine dv_inv (P := fun q => ∃ (U : dV) (j : Int), q = (U, a, k, j) ∧ 0 ≤ j ∧ j ≤ 450 ∧ (∀ b m z, ¬ (b = a ∧ m = 31) → U b m z = W b m z) ∧ ∀ z, U a 31 z = if 0 ≤ z ∧ z < j then W a 31 (z + 30) else W a 31 z) (Q := fun q => ∃ U : dV, q = f_X12_keeps_52 U a k ∧ (∀ b m z, ¬ (b = a ∧ (m = 31 ∨ m = 33)) → U b m z = W b m z) ∧ U a 33 0 = 15 ∧ ∀ z, 0 ≤ z → z < 450 → U a 31 z = W a 31 (z + 30)) (m := fun q => (450 - q.2.2.2).toNat) ?_ _ ⟨W, 0, rfl, by omega, by omega, fun _ _ _ _ => rfl, fun z => by rw [if_neg (by omega)]⟩
      rintro q ⟨U, j, rfl, j0, j1, hf, hz⟩
      have u33 : U a 33 0 = W a 33 0 := hf a 33 0 (fun q => absurd q.2 (by decide))
      rw [f_X12_keeps_14e]
      unfold f_X12_keeps_14c
      rw [bq]
      by_cases e1 : 15 * 30 ≤ j
      · rw [if_pos e1, bq, bq, bq, u33, e]
        refine Or.inr ⟨_, rfl, _, rfl, fun b m z h => ?_, by rw [u_e]; rfl, fun z z0 z1 => ?_⟩
        · by_cases eb : b = a
          · rw [u_j (fun q => h ⟨eb, Or.inr q⟩)]; exact hf b m z (fun q => h ⟨eb, Or.inl q.2⟩)
          · rw [u_b eb]; exact hf b m z (fun q => eb q.1)
        · rw [u_j (by decide), hz, if_pos (by omega)]
      · rw [if_neg e1, bq, bq, bq, bq, hz, if_neg (by omega)]
        refine Or.inl ⟨_, rfl, ⟨_, j + 1, rfl, by omega, by omega, fun b m z h => ?_, fun z => ?_⟩, by dsimp only; omega⟩
        · by_cases eb : b = a
          · rw [u_j (fun q => h ⟨eb, q⟩)]; exact hf b m z h
          · rw [u_b eb]; exact hf b m z h
        · rw [u_if]
          by_cases q : z = j
          · rw [if_pos q, if_pos (by omega), q]
          · rw [if_neg q, hz]
            by_cases q1 : 0 ≤ z ∧ z < j
            · rw [if_pos q1, if_pos (by omega)]
            · rw [if_neg q1, if_neg (by omega)]
    obtain ⟨U, l1, l2, l3, l4⟩ := L
    obtain ⟨W', e1, e2, e3, e4, e5, e6⟩ := m_54 (W := U) (a := a) (k := k) (by omega)
    rw [l3] at e3 e4 e5 e6
    refine ⟨W', 15, 30, ?_, Or.inr ⟨e, rfl, rfl⟩, fun b m z h => (e2 b m z h).trans (l2 b m z h), e3, fun z z0 z1 => by rw [e4 z z0 z1, l4 z z0 (by omega)], e5, fun i i0 i1 => by rw [e6 i i0 i1, l2 a 2 i (fun q => absurd q.2 (by decide))]⟩
    rw [bq, if_neg (fun q => q e), l1, e1]
/-- a deed is noted in both -/
theorem RR_note (h : RR A a V W) (hk : 0 ≤ k ∧ k ≤ 3) : ∃ V' W', f_X4_note V (A 15) k (A 4) = (V', 0) ∧ f_X12_keeps W a k = (W', 0) ∧ (∀ b m z, ¬ (b = A 15 ∧ (m = 0 ∨ m = 4)) → V' b m z = V b m z) ∧ (∀ b m z, ¬ (b = a ∧ (m = 31 ∨ m = 33)) → W' b m z = W b m z) ∧ RR A a V' W' := by
  have hA := h.1
  obtain ⟨kk, e7, e8, e9, e10, e50, e51, e52, ec⟩ := RR_n h
  obtain ⟨-, -, ⟨⟨fe, -⟩, -, -⟩, -, -, ⟨p1, p2, p3⟩, -⟩ := id h
  obtain ⟨V', n, d, eV, hn, f1, f2, f3, f4, f5, f6, f7⟩ := c_note (V := V) (pa := A 15) (fl := A 4) (k := k) (inj_n hA (by decide) (by decide) (by decide)) (by omega)
  obtain ⟨W', n', d', eW, hn', g1, g2, g3, g4, g5⟩ := m_keeps (W := W) (a := a) (k := k) p2
  have en : n' = n ∧ d' = d := by omega
  rw [en.1] at g2 g3 g4 g5
  rw [en.2] at g3
  have hn16 : 0 ≤ n ∧ n ≤ 15 := by omega
  have F4 : ∀ m z, V' (A 4) m z = V (A 4) m z := fun m z => f1 _ m z (fun q => inj_n hA (by decide) (by decide) (by decide) q.1)
  have w2 : ∀ z, W' a 2 z = W a 2 z := fun z => g1 a 2 z (fun q => absurd q.2 (by decide))
  refine ⟨V', W', eV, eW, f1, g1, RR_act h (fun i m z hi hm hL => f1 _ m z (fun q => ?_)) (fun m z hm => g1 a m z (fun q => ?_)) (fun z _ => f1 _ 1 z (fun q => inj_n hA (by decide) (by decide) (by decide) q.1)) (fun z _ => w2 z) (flR_c h.2.2.1.1 (fun j c _ _ => (F4 j c).symm) (fun z _ => w2 _)) ⟨by rw [f2, g2], by rw [g2]; omega, fun u u0 u1 => ?_⟩⟩
  · have := hA.1 i 15 hi (by decide) q.1
    subst this
    rcases q.2 with rfl | rfl <;> cases hL
  · rcases q.2 with rfl | rfl <;> cases hm
  · rw [g2] at u1
    by_cases eu : u = n
    · subst eu
      refine ⟨⟨by rw [f4, g4], by rw [f4]; exact hk, ?_, ?_, fun c c0 c9 => ?_⟩, kg_9 kk (fun c c0 c9 => ?_) ?_ (F4 7 0) (F4 8 0) (F4 9 0) ?_⟩
      · rw [f5, g5 27 (by decide) (by decide), e10]
      · rw [f6, g5 28 (by decide) (by decide), e50]
      · obtain ⟨q1, q2, q3⟩ := f7 c c0 c9
        obtain ⟨-, -, r2, r3, r4⟩ := ec c c0 c9
        rw [q1, q2, q3, g5 (9 + c) (by omega) (by omega), g5 (18 + c) (by omega) (by omega), g5 c (by omega) (by omega)]
        exact ⟨r3, r4, r2⟩
      · obtain ⟨r0, r1, r2, r3, r4⟩ := ec c c0 c9
        refine ⟨F4 0 c, F4 1 c, ?_, ?_, ?_⟩
        · show W' a 31 (30 * u + c) = _
          rw [g5 c (by omega) (by omega), r2]
        · show W' a 31 (30 * u + (9 + c)) = _
          rw [g5 (9 + c) (by omega) (by omega), r3]
        · show W' a 31 (30 * u + (18 + c)) = _
          rw [g5 (18 + c) (by omega) (by omega), r4]
      · refine ⟨?_, ?_, ?_⟩
        · show (if (0 : Int) = 0 then W' a 31 (30 * u + 28) else V' (A 4) 5 0) = _
          rw [if_pos rfl, g5 28 (by decide) (by decide), e50]
        · show (if (1 : Int) = 0 then W' a 31 (30 * u + 28) else V' (A 4) 5 1) = _
          rw [if_neg (by decide)]; exact F4 5 1
        · show (if (2 : Int) = 0 then W' a 31 (30 * u + 28) else V' (A 4) 5 2) = _
          rw [if_neg (by decide)]; exact F4 5 2
      · show W' a 31 (30 * u + 27) = _
        rw [g5 27 (by decide) (by decide), e10]
    · -- an elder one
      obtain ⟨v, hv⟩ : ∃ v, 30 * v = 30 * u + d ∧ 0 ≤ v ∧ v < W a 33 0 := by
        rcases hn with ⟨q1, q2, q3⟩ | ⟨q1, q2, q3⟩
        · exact ⟨u, by omega, by omega, by omega⟩
        · exact ⟨u + 1, by omega, by omega, by omega⟩
      obtain ⟨hv, v0, v1⟩ := hv
      obtain ⟨⟨s1, s2, s3, s4, s5⟩, s6⟩ := p3 v v0 v1
      have fz : ∀ i, 0 ≤ i → i < 30 → V' (A 15) 0 (30 * u + i) = V (A 15) 0 (30 * v + i) := fun i i0 i1 => by
        rw [f3 _ (by omega) (by omega)]; congr 1; omega
      have gz : ∀ i, 0 ≤ i → i < 30 → W' a 31 (30 * u + i) = W a 31 (30 * v + i) := fun i i0 i1 => by
        rw [g3 _ (by omega) (by omega)]; congr 1; omega
      have f0 : V' (A 15) 0 (30 * u) = V (A 15) 0 (30 * v) := by
        have := fz 0 (by decide) (by decide)
        rw [Int.add_zero, Int.add_zero] at this; exact this
      refine ⟨⟨by rw [f0, gz 29 (by decide) (by decide)]; exact s1, by rw [f0]; exact s2, by rw [fz 1 (by decide) (by decide), gz 27 (by decide) (by decide)]; exact s3, by rw [fz 2 (by decide) (by decide), gz 28 (by decide) (by decide)]; exact s4, fun c c0 c9 => ?_⟩, kg_9 s6 (fun c c0 c9 => ⟨F4 0 c, F4 1 c, ?_, ?_, ?_⟩) ⟨?_, ?_, ?_⟩ (F4 7 0) (F4 8 0) (F4 9 0) ?_⟩
      · rw [fz _ (by omega) (by omega), fz _ (by omega) (by omega), fz _ (by omega) (by omega), gz _ (by omega) (by omega), gz _ (by omega) (by omega), gz _ (by omega) (by omega)]
        exact s5 c c0 c9
      · exact gz c (by omega) (by omega)
      · exact gz (9 + c) (by omega) (by omega)
      · exact gz (18 + c) (by omega) (by omega)
      · exact gz 28 (by decide) (by decide)
      · exact F4 5 1
      · exact F4 5 2
      · exact gz 27 (by decide) (by decide)
end QSU
end
section
section QAR
def ma_sm (f : Nat → Int) : Nat → Int
  | 0 => 0
  | n + 1 => ma_sm f n + f n
theorem ma_sm_add (f g : Nat → Int) (n : Nat) : ma_sm (fun i => f i + g i) n = ma_sm f n + ma_sm g n := by
  induction n with
  | zero => rfl
  | succ n ih => simp only [ma_sm, ih]; omega
theorem ma_sm_le {f g : Nat → Int} {n : Nat} (h : ∀ i, i < n → f i ≤ g i) : ma_sm f n ≤ ma_sm g n := by
  induction n with
  | zero => exact Int.le_refl _
  | succ n ih =>
    have h1 := ih (fun i hi => h i (by omega))
    have h2 := h n (by omega)
    simp only [ma_sm]
    omega
theorem ma_sm_eq {f g : Nat → Int} {n : Nat} (h : ∀ i, i < n → f i = g i) : ma_sm f n = ma_sm g n := by
  induction n with
  | zero => rfl
  | succ n ih =>
    have h1 := ih (fun i hi => h i (by omega))
    have h2 := h n (by omega)
    simp only [ma_sm]
    omega
theorem ma_sm_c (c : Int) (n : Nat) : ma_sm (fun _ => c) n = (n : Int) * c := by
  induction n with
  | zero => simp [ma_sm]
  | succ n ih =>
    have e : ((n + 1 : Nat) : Int) = (n : Int) + 1 := by omega
    simp only [ma_sm, ih]
    rw [e, Int.add_mul, Int.one_mul]
def ma_cl (a s : Int) (n : Nat) : Int := if (n : Int) ≤ a then 0 else if (n : Int) ≤ a + s then n - a else s
theorem ma_sm_in (a s w : Int) (ha : 0 ≤ a) (hs : 0 ≤ s) (n : Nat) : ma_sm (fun i => if a ≤ (i : Int) ∧ (i : Int) < a + s then w else 0) n = ma_cl a s n * w := by
  induction n with
  | zero =>
    have e : ma_cl a s 0 = 0 := by unfold ma_cl; rw [if_pos (by omega)]
    rw [e, Int.zero_mul]
    rfl
  | succ n ih =>
    simp only [ma_sm, ih]
    by_cases h1 : a ≤ (n : Int) ∧ (n : Int) < a + s
    · rw [if_pos h1]
      have e : ma_cl a s (n + 1) = ma_cl a s n + 1 := by unfold ma_cl; (repeat' split) <;> omega
      rw [e, Int.add_mul, Int.one_mul]
    · rw [if_neg h1]
      have e : ma_cl a s (n + 1) = ma_cl a s n := by unfold ma_cl; (repeat' split) <;> omega
      rw [e, Int.add_zero]
theorem ma_cl_s {a s : Int} {n : Nat} (hs : 0 ≤ s) (ha : 0 ≤ a) (h : a + s ≤ (n : Int)) : ma_cl a s n = s := by
  unfold ma_cl; (repeat' split) <;> omega
/-- carpet c, as the row k has it, covers a cell -/
abbrev ma_co (k : Int → Int) (c x y : Int) : Prop := k (9 + c) ≠ -1 ∧ k (9 + c) ≤ x ∧ x < k (9 + c) + k (29 + c) ∧ k (18 + c) ≤ y ∧ y < k (18 + c) + k (29 + c)
def ma_ap (k : Int → Int) (c d : Int) : Prop := k (9 + c) + k (29 + c) ≤ k (9 + d) ∨ k (9 + d) + k (29 + d) ≤ k (9 + c) ∨ k (18 + c) + k (29 + c) ≤ k (18 + d) ∨ k (18 + d) + k (29 + d) ≤ k (18 + c)
def ma_geo (k : Int → Int) : Prop := k 69 ≤ 9 ∧ (∀ c, 0 ≤ c → c < k 69 → k (9 + c) ≠ -1 → 1 ≤ k (29 + c) ∧ 0 ≤ k (9 + c) ∧ 0 ≤ k (18 + c) ∧ k (9 + c) + k (29 + c) ≤ k 67 ∧ k (18 + c) + k (29 + c) ≤ k 68) ∧ ∀ c d, 0 ≤ c → c < k 69 → 0 ≤ d → d < k 69 → c ≠ d → k (9 + c) ≠ -1 → k (9 + d) ≠ -1 → ma_ap k c d
def ma_ss (k : Int → Int) : Nat → Int
  | 0 => 0
  | n + 1 => ma_ss k n + if k (9 + (n : Int)) = -1 then 0 else k (29 + (n : Int)) * k (29 + (n : Int))
def ma_cc (k : Int → Int) (x y : Int) : Nat → Int
  | 0 => 0
  | n + 1 => ma_cc k x y n + if ma_co k (n : Int) x y then 1 else 0
theorem ma_co1 {k : Int → Int} (hg : ma_geo k) {c d x y : Int} (hc0 : 0 ≤ c) (hc : c < k 69) (hd0 : 0 ≤ d) (hd : d < k 69) (h1 : ma_co k c x y) (h2 : ma_co k d x y) : c = d := by
  rcases Int.lt_or_le c d with h | h
  · have := hg.2.2 c d hc0 hc hd0 hd (by omega) h1.1 h2.1
    unfold ma_ap at this
    obtain ⟨-, a1, a2, a3, a4⟩ := h1
    obtain ⟨-, b1, b2, b3, b4⟩ := h2
    omega
  · rcases Int.lt_or_le d c with h' | h'
    · have := hg.2.2 c d hc0 hc hd0 hd (by omega) h1.1 h2.1
      unfold ma_ap at this
      obtain ⟨-, a1, a2, a3, a4⟩ := h1
      obtain ⟨-, b1, b2, b3, b4⟩ := h2
      omega
    · omega
theorem ma_cc_le {k : Int → Int} (hg : ma_geo k) (x y : Int) (n : Nat) (hn : (n : Int) ≤ k 69) : ma_cc k x y n ≤ 1 ∧ (1 ≤ ma_cc k x y n → ∃ c : Nat, c < n ∧ ma_co k (c : Int) x y) := by
  induction n with
  | zero => exact ⟨by simp only [ma_cc]; omega, fun h => by simp only [ma_cc] at h; omega⟩
  | succ n ih =>
    obtain ⟨h1, h2⟩ := ih (by omega)
    simp only [ma_cc]
    by_cases hc : ma_co k (n : Int) x y
    · rw [if_pos hc]
      have h4 : ¬ 1 ≤ ma_cc k x y n := fun q => by
        obtain ⟨c, hc1, hc2⟩ := h2 q
        have := ma_co1 hg (by omega) (by omega) (by omega) (by omega) hc2 hc
        omega
      exact ⟨by omega, fun _ => ⟨n, by omega, hc⟩⟩
    · rw [if_neg hc]
      refine ⟨by omega, fun q => ?_⟩
      obtain ⟨c, hc1, hc2⟩ := h2 (by omega)
      exact ⟨c, by omega, hc2⟩
theorem ma_ar {k : Int → Int} (hg : ma_geo k) {W Z : Nat} (hW : (W : Int) = k 67) (hZ : (Z : Int) = k 68) (n : Nat) (hn : (n : Int) ≤ k 69) : ma_sm (fun y => ma_sm (fun x => ma_cc k (x : Int) (y : Int) n) W) Z = ma_ss k n := by
  induction n with
  | zero =>
    have e : (fun y : Nat => ma_sm (fun x => ma_cc k (x : Int) (y : Int) 0) W) = fun _ => (0 : Int) := by
      funext y
      show ma_sm (fun _ => (0 : Int)) W = 0
      rw [ma_sm_c, Int.mul_zero]
    rw [e, ma_sm_c, Int.mul_zero]
    rfl
  | succ n ih =>
    have e : (fun y : Nat => ma_sm (fun x => ma_cc k (x : Int) (y : Int) (n + 1)) W) = fun y : Nat => ma_sm (fun x => ma_cc k (x : Int) (y : Int) n) W + ma_sm (fun x => if ma_co k (n : Int) (x : Int) (y : Int) then 1 else 0) W := by
      funext y
      rw [← ma_sm_add]
      rfl
    rw [e, ma_sm_add, ih (by omega)]
    simp only [ma_ss]
    congr 1
    by_cases hl : k (9 + (n : Int)) = -1
    · rw [if_pos hl]
      have e2 : (fun y : Nat => ma_sm (fun x : Nat => if ma_co k (n : Int) (x : Int) (y : Int) then (1 : Int) else 0) W) = fun _ => (0 : Int) := by
        funext y
        have e3 : (fun x : Nat => if ma_co k (n : Int) (x : Int) (y : Int) then (1 : Int) else 0) = fun _ => (0 : Int) := by
          funext x
          exact if_neg (fun q => q.1 hl)
        rw [e3, ma_sm_c, Int.mul_zero]
      rw [e2, ma_sm_c, Int.mul_zero]
    · rw [if_neg hl]
      obtain ⟨g1, g2, g3, g4, g5⟩ := hg.2.1 (n : Int) (by omega) (by omega) hl
      have e2 : (fun y : Nat => ma_sm (fun x : Nat => if ma_co k (n : Int) (x : Int) (y : Int) then (1 : Int) else 0) W) = fun y : Nat => if k (18 + (n : Int)) ≤ (y : Int) ∧ (y : Int) < k (18 + (n : Int)) + k (29 + (n : Int)) then k (29 + (n : Int)) else 0 := by
        funext y
        by_cases hy : k (18 + (n : Int)) ≤ (y : Int) ∧ (y : Int) < k (18 + (n : Int)) + k (29 + (n : Int))
        · rw [if_pos hy]
          have e3 : ma_sm (fun x : Nat => if ma_co k (n : Int) (x : Int) (y : Int) then (1 : Int) else 0) W = ma_sm (fun x : Nat => if k (9 + (n : Int)) ≤ (x : Int) ∧ (x : Int) < k (9 + (n : Int)) + k (29 + (n : Int)) then (1 : Int) else 0) W := by
            apply ma_sm_eq
            intro x _
            by_cases hx : k (9 + (n : Int)) ≤ (x : Int) ∧ (x : Int) < k (9 + (n : Int)) + k (29 + (n : Int))
            · rw [if_pos hx, if_pos ⟨hl, hx.1, hx.2, hy.1, hy.2⟩]
            · rw [if_neg hx, if_neg (fun q => hx ⟨q.2.1, q.2.2.1⟩)]
          rw [e3, ma_sm_in _ _ _ g2 (by omega), ma_cl_s (by omega) g2 (by omega), Int.mul_one]
        · rw [if_neg hy]
          have e3 : (fun x : Nat => if ma_co k (n : Int) (x : Int) (y : Int) then (1 : Int) else 0) = fun _ => (0 : Int) := by
            funext x
            exact if_neg (fun q => hy ⟨q.2.2.2.1, q.2.2.2.2⟩)
          rw [e3, ma_sm_c, Int.mul_zero]
      rw [e2, ma_sm_in _ _ _ g3 (by omega), ma_cl_s (by omega) g3 (by omega)]
theorem ma_ss_le {k : Int → Int} (hg : ma_geo k) (h1 : 0 ≤ k 67) (h2 : 0 ≤ k 68) {n : Nat} (hn : (n : Int) ≤ k 69) : ma_ss k n ≤ k 67 * k 68 := by
  have hW : ((k 67).toNat : Int) = k 67 := Int.toNat_of_nonneg h1
  have hZ : ((k 68).toNat : Int) = k 68 := Int.toNat_of_nonneg h2
  rw [← ma_ar hg hW hZ n hn]
  have h3 : ma_sm (fun y => ma_sm (fun x => ma_cc k (x : Int) (y : Int) n) (k 67).toNat) (k 68).toNat ≤ ma_sm (fun _ => k 67) (k 68).toNat := by
    apply ma_sm_le
    intro y _
    have h4 : ma_sm (fun x => ma_cc k (x : Int) (y : Int) n) (k 67).toNat ≤ ma_sm (fun _ => 1) (k 67).toNat := ma_sm_le (fun x _ => (ma_cc_le hg x y n hn).1)
    rw [ma_sm_c, Int.mul_one, hW] at h4
    exact h4
  rw [ma_sm_c, hZ, Int.mul_comm] at h3
  exact h3
/-- a good floor has room for all that lie on it -/
theorem kg_bare {φ : Nat → Int → Int} (g : kgf φ) : 0 ≤ φ 8 0 * φ 9 0 - qs (sqf φ) (φ 7 0).toNat := by
  obtain ⟨⟨b7, b8, b9, bc⟩, gd, gs, gl, -⟩ := g
  obtain ⟨k, k69, k67, k68, kc⟩ : ∃ k : Int → Int, k 69 = φ 7 0 ∧ k 67 = φ 8 0 ∧ k 68 = φ 9 0 ∧ ∀ c, 0 ≤ c → c < 9 → k (9 + c) = φ 3 c ∧ k (18 + c) = φ 4 c ∧ k (29 + c) = φ 0 c := by
    refine ⟨fun z => if z = 69 then φ 7 0 else if z = 67 then φ 8 0 else if z = 68 then φ 9 0 else if z < 18 then φ 3 (z - 9) else if z < 27 then φ 4 (z - 18) else φ 0 (z - 29), rfl, rfl, rfl, fun c c0 c9 => ⟨?_, ?_, ?_⟩⟩
    · dsimp only
      rw [if_neg (by omega), if_neg (by omega), if_neg (by omega), if_pos (by omega)]; congr 1; omega
    · dsimp only
      rw [if_neg (by omega), if_neg (by omega), if_neg (by omega), if_neg (by omega), if_pos (by omega)]; congr 1; omega
    · dsimp only
      rw [if_neg (by omega), if_neg (by omega), if_neg (by omega), if_neg (by omega), if_neg (by omega)]; congr 1; omega
  have geo : ma_geo k := by
    refine ⟨by omega, fun c c0 c1 hx => ?_, fun c d c0 c1 d0 d1 cd hc hd => ?_⟩
    · obtain ⟨e3, e4, e0⟩ := kc c c0 (by omega)
      rw [e3] at hx
      rw [e3, e4, e0, k67, k68]
      have h1 := bc c c0 (by omega)
      have h2 := gs c c0 (by omega)
      have h3 := gl c c0 (by omega) hx
      have h4 := h1.2.resolve_left hx
      exact ⟨h2.1, h4.1, h4.2.2.1, h3.1, h3.2⟩
    · obtain ⟨e3, e4, e0⟩ := kc c c0 (by omega)
      obtain ⟨f3, f4, f0⟩ := kc d d0 (by omega)
      rw [e3] at hc
      rw [f3] at hd
      unfold ma_ap
      rw [e3, e4, e0, f3, f4, f0]
      have h2 := gs c c0 (by omega)
      have h3 := gs d d0 (by omega)
      by_cases q : φ 3 c + φ 0 c ≤ φ 3 d ∨ φ 3 d + φ 0 d ≤ φ 3 c ∨ φ 4 c + φ 0 c ≤ φ 4 d ∨ φ 4 d + φ 0 d ≤ φ 4 c
      · exact q
      · exact absurd (gd c d (max (φ 3 c) (φ 3 d)) (max (φ 4 c) (φ 4 d)) c0 (by omega) d0 (by omega) ⟨hc, by omega, by omega, by omega, by omega⟩ ⟨hd, by omega, by omega, by omega, by omega⟩) cd
  have hs : ∀ n : Nat, (n : Int) ≤ 9 → qs (sqf φ) n = ma_ss k n := by
    intro n
    induction n with
    | zero => intro _; rfl
    | succ n ih =>
      intro hn
      obtain ⟨e3, e4, e0⟩ := kc (n : Int) (by omega) (by omega)
      show qs (sqf φ) n + sqf φ n = ma_ss k n + (if k (9 + (n : Int)) = -1 then 0 else k (29 + (n : Int)) * k (29 + (n : Int)))
      rw [ih (by omega), e3, e0]
      rfl
  rw [hs _ (by omega), ← k67, ← k68]
  have := ma_ss_le geo (by omega) (by omega) (n := (φ 7 0).toNat) (by omega)
  omega
end QAR
section QDF
variable {V V' V1 W W' W1 : dV} {a z y : Int} {A : Nat → Int} {m : Nat}
/-- what a deed may change -/
def DF (A : Nat → Int) (a : Int) (V W V' W' : dV) : Prop := (∀ b m z, ¬ (b = A 4 ∧ (m = 2 ∨ m = 3 ∨ m = 4 ∨ m = 5 ∨ m = 10)) → ¬ (b = A 14 ∧ m ≤ 3) → ¬ (b = A 15 ∧ (m = 0 ∨ m = 4)) → V' b m z = V b m z) ∧ (∀ z, z ≠ 0 → V' (A 4) 5 z = V (A 4) 5 z) ∧ (∀ b m z, ¬ (b = a ∧ (m = 2 ∨ (22 ≤ m ∧ m ≤ 26) ∨ (29 ≤ m ∧ m ≤ 31) ∨ m = 33)) → W' b m z = W b m z) ∧ ∀ z, 29 ≤ z → W' a 2 z = W a 2 z
theorem DF_r : DF A a V W V W := ⟨fun _ _ _ _ _ _ => rfl, fun _ _ => rfl, fun _ _ _ _ => rfl, fun _ _ => rfl⟩
theorem DF_t (h : DF A a V W V' W') (k : DF A a V' W' V1 W1) : DF A a V W V1 W1 := ⟨fun b m z p q r => (k.1 b m z p q r).trans (h.1 b m z p q r), fun z hz => (k.2.1 z hz).trans (h.2.1 z hz), fun b m z p => (k.2.2.1 b m z p).trans (h.2.2.1 b m z p), fun z hz => (k.2.2.2 z hz).trans (h.2.2.2 z hz)⟩
theorem DF_V (h1 : ∀ b m z, ¬ (b = A 4 ∧ (m = 2 ∨ m = 3 ∨ m = 4 ∨ m = 5 ∨ m = 10)) → ¬ (b = A 14 ∧ m ≤ 3) → ¬ (b = A 15 ∧ (m = 0 ∨ m = 4)) → V' b m z = V b m z) (h2 : ∀ z, z ≠ 0 → V' (A 4) 5 z = V (A 4) 5 z) : DF A a V W V' W := ⟨h1, h2, fun _ _ _ _ => rfl, fun _ _ => rfl⟩
theorem DF_W (h3 : ∀ b m z, ¬ (b = a ∧ (m = 2 ∨ (22 ≤ m ∧ m ≤ 26) ∨ (29 ≤ m ∧ m ≤ 31) ∨ m = 33)) → W' b m z = W b m z) (h4 : ∀ z, 29 ≤ z → W' a 2 z = W a 2 z) : DF A a V W V W' := ⟨fun _ _ _ _ _ _ => rfl, fun _ _ => rfl, h3, h4⟩
theorem DF_u (hm : m = 2 ∨ m = 3 ∨ m = 4 ∨ m = 10) : DF A a V W (dv_u V (A 4) m z y) W := DF_V (fun b m' z' p _ _ => by
  by_cases q : b = A 4
  · exact u_j (fun w => p ⟨q, by omega⟩)
  · exact u_b q) (fun z' _ => u_j (by omega))
theorem DF_w (hz : z < 29) : DF A a V W V (dv_u W a 2 z y) := DF_W (fun b m' z' p => by
  by_cases q : b = a
  · exact u_j (fun w => p ⟨q, Or.inl w⟩)
  · exact u_b q) (fun z' h => u_i (by omega))
theorem DF_n (hA : inj A) (h : ∀ b m z, ¬ (b = A 15 ∧ (m = 0 ∨ m = 4)) → V' b m z = V b m z) (k : ∀ b m z, ¬ (b = a ∧ (m = 31 ∨ m = 33)) → W' b m z = W b m z) : DF A a V W V' W' := ⟨fun b m z _ _ p => h b m z p, fun z _ => h _ _ _ (fun q => absurd q.2 (by decide)), fun b m z p => k b m z (fun q => p ⟨q.1, by omega⟩), fun z _ => k _ _ _ (fun q => absurd q.2 (by decide))⟩
end QDF
section QSV
variable {V V' V0 V1 V2 U W W' W0 W1 W2 : dV} {a b c z t k s p x y n i u o : Int} {A : Nat → Int} {K K' : Int → Int} {φ ψ : Nat → Int → Int} {j m : Nat} {fl : Int}
/-- places, piles, PAID and the YEAR have changed, the same in both -/
theorem RR_fl (h : RR A a V W) (f : ∀ b m z, ¬ (b = A 4 ∧ (m = 2 ∨ m = 3 ∨ m = 4 ∨ m = 5 ∨ m = 10)) → V' b m z = V b m z) (f5 : ∀ z, z ≠ 0 → V' (A 4) 5 z = V (A 4) 5 z) (g : ∀ b m z, ¬ (b = a ∧ m = 2) → W' b m z = W b m z) (hK : ∀ z, 29 ≤ z → W' a 2 z = W a 2 z) (h10 : V' (A 4) 10 0 = W' a 2 27) (h50 : V' (A 4) 5 0 = W' a 2 28) (hc : ∀ c, 0 ≤ c → c < 9 → V' (A 4) 2 c = W' a 2 c ∧ V' (A 4) 3 c = W' a 2 (9 + c) ∧ V' (A 4) 4 c = W' a 2 (18 + c)) (hkg : kgf (V' (A 4))) : RR A a V' W' := by
  have hA := h.1
  obtain ⟨kk, e7, e8, e9, e10, e50, e51, e52, ec⟩ := RR_n h
  obtain ⟨-, -, -, -, -, ⟨p1, p2, p3⟩, -⟩ := id h
  have F : ∀ (j : Nat) (z : Int), j ≠ 2 → j ≠ 3 → j ≠ 4 → j ≠ 5 → j ≠ 10 → V' (A 4) j z = V (A 4) j z := fun j z n2 n3 n4 n5 n10 => f _ j z (fun q => by have := q.2; omega)
  have f15 : ∀ m z, V' (A 15) m z = V (A 15) m z := fun m z => f _ m z (fun q => inj_n hA (by decide) (by decide) (by decide) q.1)
  refine RR_act h (cf_b hA (j := 4) (by decide) (fun b m z hb => f b m z (fun q => hb q.1)) (fun _ => rfl)) (wf_b g rfl) (fun z _ => f _ 1 z (fun q => inj_n hA (by decide) (by decide) (by decide) q.1)) (fun z hz => hK z (by omega)) ⟨ef_of ⟨?_, ?_, ?_, h10, h50, ?_, ?_, fun c c0 c9 => ?_⟩, hkg⟩ ⟨by rw [f15, g a 33 0 (fun q => absurd q.2 (by decide))]; exact p1, by rw [g a 33 0 (fun q => absurd q.2 (by decide))]; exact p2, fun u u0 u1 => ?_⟩
  · rw [F 7 0 (by decide) (by decide) (by decide) (by decide) (by decide), hK 69 (by decide), e7]
  · rw [F 8 0 (by decide) (by decide) (by decide) (by decide) (by decide), hK 67 (by decide), e8]
  · rw [F 9 0 (by decide) (by decide) (by decide) (by decide) (by decide), hK 68 (by decide), e9]
  · rw [f5 1 (by decide), hK 65 (by decide), e51]
  · rw [f5 2 (by decide), hK 66 (by decide), e52]
  · obtain ⟨q2, q3, q4⟩ := hc c c0 c9
    obtain ⟨r0, r1, -⟩ := ec c c0 c9
    exact ⟨by rw [F 0 c (by decide) (by decide) (by decide) (by decide) (by decide), hK _ (by omega), r0], by rw [F 1 c (by decide) (by decide) (by decide) (by decide) (by decide), hK _ (by omega), r1], q2, q3, q4⟩
  · rw [g a 33 0 (fun q => absurd q.2 (by decide))] at u1
    rw [show W' a 31 = W a 31 from funext fun z => g a 31 z (fun q => absurd q.2 (by decide)), show V' (A 15) 0 = V (A 15) 0 from funext fun z => f15 0 z]
    exact ⟨(p3 u u0 u1).1, mvf_eq (fun c => ⟨F 0 c (by decide) (by decide) (by decide) (by decide) (by decide), F 1 c (by decide) (by decide) (by decide) (by decide) (by decide), fun hc => f5 c hc⟩) (F 7 0 (by decide) (by decide) (by decide) (by decide) (by decide)) (F 8 0 (by decide) (by decide) (by decide) (by decide) (by decide)) (F 9 0 (by decide) (by decide) (by decide) (by decide) (by decide)) (p3 u u0 u1).2⟩
theorem kg_sub (g : kgf φ) (h0 : ∀ c, 0 ≤ c → c < φ 7 0 → ψ 0 c = φ 0 c ∧ ψ 1 c = φ 1 c ∧ (0 ≤ ψ 2 c ∧ ψ 2 c ≤ 9) ∧ ((ψ 3 c = φ 3 c ∧ ψ 4 c = φ 4 c) ∨ ψ 3 c = -1)) (h7 : ψ 7 0 = φ 7 0) (h8 : ψ 8 0 = φ 8 0) (h9 : ψ 9 0 = φ 9 0) (h10 : 0 ≤ ψ 10 0 ∧ ψ 10 0 ≤ 9999) (h50 : 0 ≤ ψ 5 0 ∧ ψ 5 0 ≤ 999) (h51 : ψ 5 1 = φ 5 1) (h52 : ψ 5 2 = φ 5 2) : kgf ψ := by
  obtain ⟨⟨b7, b8, b9, bc⟩, gd, gs, gl, gw, gp, gy, gm, gz⟩ := g
  have hc : ∀ c px py, 0 ≤ c → c < φ 7 0 → cov ψ c px py → cov φ c px py := fun c px py c0 c1 hv => by
    obtain ⟨e0, -, -, e3⟩ := h0 c c0 c1
    rcases e3 with ⟨e3, e4⟩ | e3
    · unfold cov at hv ⊢
      rw [e0, e3, e4] at hv
      exact hv
    · exact absurd e3 hv.1
  refine ⟨⟨by rw [h7]; exact b7, by rw [h8]; exact b8, by rw [h9]; exact b9, fun c c0 c1 => ?_⟩, fun c d px py c0 c1 d0 d1 kc kd => gd c d px py c0 (by omega) d0 (by omega) (hc c px py c0 (by omega) kc) (hc d px py d0 (by omega) kd), fun c c0 c1 => ?_, fun c c0 c1 hx => ?_, by rw [h8, h9]; exact gw, h10, h50, by rw [h51]; exact gm, by rw [h52]; exact gz⟩
  · obtain ⟨e0, -, -, e3⟩ := h0 c c0 (by omega)
    rw [e0]
    rcases e3 with ⟨e3, e4⟩ | e3
    · rw [e3, e4]; exact bc c c0 (by omega)
    · exact ⟨(bc c c0 (by omega)).1, Or.inl e3⟩
  · obtain ⟨e0, e1, e2, -⟩ := h0 c c0 (by omega)
    have := gs c c0 (by omega)
    rw [e0, e1]; omega
  · obtain ⟨e0, -, -, e3⟩ := h0 c c0 (by omega)
    rcases e3 with ⟨e3, e4⟩ | e3
    · rw [e3] at hx
      rw [e0, e3, e4, h8, h9]; exact gl c c0 (by omega) hx
    · exact absurd e3 hx
theorem kg_mir (g : kgf φ) (h : ∀ j c, j ≠ 3 → ψ j c = φ j c) (h3 : ∀ c, 0 ≤ c → c < φ 7 0 → ψ 3 c = if φ 3 c = -1 then -1 else φ 8 0 - φ 3 c - φ 0 c) : kgf ψ := by
  obtain ⟨⟨b7, b8, b9, bc⟩, gd, gs, gl, gw, gp, gy, gm, gz⟩ := g
  have e := fun j c (n : j ≠ 3) => h j c n
  have hc : ∀ c px py, 0 ≤ c → c < φ 7 0 → cov ψ c px py → cov φ c (φ 8 0 - 1 - px) py := fun c px py c0 c1 hv => by
    unfold cov at hv ⊢
    rw [h3 c c0 c1, e 0 c (by decide), e 4 c (by decide)] at hv
    by_cases q : φ 3 c = -1
    · rw [if_pos q] at hv; exact absurd rfl hv.1
    · rw [if_neg q] at hv
      exact ⟨q, by omega, by omega, by omega, by omega⟩
  refine ⟨⟨by rw [e 7 0 (by decide)]; exact b7, by rw [e 8 0 (by decide)]; exact b8, by rw [e 9 0 (by decide)]; exact b9, fun c c0 c1 => ?_⟩, fun c d px py c0 c1 d0 d1 kc kd => ?_, fun c c0 c1 => ?_, fun c c0 c1 hx => ?_, by rw [e 8 0 (by decide), e 9 0 (by decide)]; exact gw, by rw [e 10 0 (by decide)]; exact gp, by rw [e 5 0 (by decide)]; exact gy, by rw [e 5 1 (by decide)]; exact gm, by rw [e 5 2 (by decide)]; exact gz⟩
  · rw [e 7 0 (by decide)] at c1
    rw [h3 c c0 c1, e 0 c (by decide), e 4 c (by decide)]
    have h1 := bc c c0 c1
    by_cases q : φ 3 c = -1
    · rw [if_pos q]; exact ⟨h1.1, Or.inl rfl⟩
    · rw [if_neg q]
      have h2 := gl c c0 c1 q
      have h4 := h1.2.resolve_left q
      exact ⟨h1.1, Or.inr ⟨by omega, by omega, h4.2.2⟩⟩
  · rw [e 7 0 (by decide)] at c1 d1
    exact gd c d _ py c0 c1 d0 d1 (hc c px py c0 c1 kc) (hc d px py d0 d1 kd)
  · rw [e 7 0 (by decide)] at c1
    rw [e 0 c (by decide), e 1 c (by decide), e 2 c (by decide)]; exact gs c c0 c1
  · rw [e 7 0 (by decide)] at c1
    rw [h3 c c0 c1] at hx
    rw [h3 c c0 c1, e 0 c (by decide), e 4 c (by decide), e 8 0 (by decide), e 9 0 (by decide)]
    by_cases q : φ 3 c = -1
    · rw [if_pos q] at hx; exact absurd rfl hx
    · rw [if_neg q]
      have h2 := gl c c0 c1 q
      have h4 := (bc c c0 c1).2.resolve_left q
      omega
theorem kg_lay (g : kgf φ) (hp : plc φ c x y) (h : ∀ j d, j ≠ 3 → j ≠ 4 → j ≠ 10 → ψ j d = φ j d) (h3 : ∀ d, ψ 3 d = if d = c then x else φ 3 d) (h4 : ∀ d, ψ 4 d = if d = c then y else φ 4 d) (h10 : 0 ≤ ψ 10 0 ∧ ψ 10 0 ≤ 9999) : kgf ψ := by
  obtain ⟨⟨b7, b8, b9, bc⟩, gd, gs, gl, gw, gp, gy, gm, gz⟩ := g
  obtain ⟨⟨c0, c1⟩, ⟨hr, -⟩, ⟨x0, y0⟩, ⟨xw, yh⟩, hov⟩ := hp
  have e := fun j d (n3 : j ≠ 3) (n4 : j ≠ 4) (n10 : j ≠ 10) => h j d n3 n4 n10
  have hcc := bc c c0 c1
  have hsc := gs c c0 c1
  have ho : ∀ d, d ≠ c → ∀ px py, cov ψ d px py → cov φ d px py := fun d hd px py hv => by
    unfold cov at hv ⊢
    rw [h3, h4, if_neg hd, if_neg hd, e 0 d (by decide) (by decide) (by decide)] at hv
    exact hv
  have hn : ∀ px py, cov ψ c px py → (x ≤ px ∧ px < x + φ 0 c) ∧ y ≤ py ∧ py < y + φ 0 c := fun px py hv => by
    unfold cov at hv
    rw [h3, h4, if_pos rfl, if_pos rfl, e 0 c (by decide) (by decide) (by decide)] at hv
    omega
  have hdis : ∀ d px py, 0 ≤ d → d < φ 7 0 → d ≠ c → cov ψ c px py → cov ψ d px py → False := fun d px py d0 d1 dc hvc hvd => by
    have k1 := hn px py hvc
    have k2 := ho d dc px py hvd
    unfold cov at k2
    exact hov d d0 d1 k2.1 ⟨by omega, by omega, by omega, by omega⟩
  refine ⟨⟨by rw [e 7 0 (by decide) (by decide) (by decide)]; exact b7, by rw [e 8 0 (by decide) (by decide) (by decide)]; exact b8, by rw [e 9 0 (by decide) (by decide) (by decide)]; exact b9, fun d d0 d1 => ?_⟩, fun d d' px py d0 d1 d0' d1' kd kd' => ?_, fun d d0 d1 => ?_, fun d d0 d1 hx => ?_, by rw [e 8 0 (by decide) (by decide) (by decide), e 9 0 (by decide) (by decide) (by decide)]; exact gw, h10, by rw [e 5 0 (by decide) (by decide) (by decide)]; exact gy, by rw [e 5 1 (by decide) (by decide) (by decide)]; exact gm, by rw [e 5 2 (by decide) (by decide) (by decide)]; exact gz⟩
  · rw [e 7 0 (by decide) (by decide) (by decide)] at d1
    rw [h3, h4, e 0 d (by decide) (by decide) (by decide)]
    by_cases q : d = c
    · rw [if_pos q, if_pos q, q]; omega
    · rw [if_neg q, if_neg q]; exact bc d d0 d1
  · rw [e 7 0 (by decide) (by decide) (by decide)] at d1 d1'
    by_cases q : d = c
    · by_cases q' : d' = c
      · rw [q, q']
      · rw [q] at kd; exact absurd (hdis d' px py d0' d1' q' kd kd') id
    · by_cases q' : d' = c
      · rw [q'] at kd'; exact absurd (hdis d px py d0 d1 q kd' kd) id
      · exact gd d d' px py d0 d1 d0' d1' (ho d q px py kd) (ho d' q' px py kd')
  · rw [e 7 0 (by decide) (by decide) (by decide)] at d1
    rw [e 0 d (by decide) (by decide) (by decide), e 1 d (by decide) (by decide) (by decide), e 2 d (by decide) (by decide) (by decide)]; exact gs d d0 d1
  · rw [e 7 0 (by decide) (by decide) (by decide)] at d1
    rw [h3] at hx
    rw [h3, h4, e 0 d (by decide) (by decide) (by decide), e 8 0 (by decide) (by decide) (by decide), e 9 0 (by decide) (by decide) (by decide)]
    by_cases q : d = c
    · rw [if_pos q, if_pos q, q]; omega
    · rw [if_neg q] at hx
      rw [if_neg q, if_neg q]; exact gl d d0 d1 hx
/-- the answer of a deed -/
def d_ans (t : Int) : Prop := 0 ≤ t ∨ t = -1 ∨ t = -2 ∨ t = -3
theorem RR_goodOr (h : RR A a V W) (ht : d_ans t) : ∃ V' W', f_X11_answer V (A 0) t = (V', t) ∧ f_X12_goodOr W a t = (W', t) ∧ RR A a V' W' := by
  unfold f_X12_goodOr
  by_cases e : 0 ≤ t
  · obtain ⟨V', W', r1, r2, r3⟩ := RR_good h e
    exact ⟨V', W', r1, by rw [if_pos e, dv_bn2 r2], r3⟩
  · rw [if_neg e]
    rcases ht with q | rfl | rfl | rfl
    · exact absurd q e
    · obtain ⟨V', W', r1, r2, r3⟩ := RR_bad (k := -1) h (Or.inl ⟨rfl, rfl, rfl⟩)
      exact ⟨V', W', r1, by rw [dv_bn2 r2], r3⟩
    · obtain ⟨V', W', r1, r2, r3⟩ := RR_bad (k := -2) h (Or.inr (Or.inl ⟨rfl, rfl, rfl⟩))
      exact ⟨V', W', r1, by rw [dv_bn2 r2], r3⟩
    · obtain ⟨V', W', r1, r2, r3⟩ := RR_bad (k := -3) h (Or.inr (Or.inr (Or.inl ⟨rfl, rfl, rfl⟩)))
      exact ⟨V', W', r1, by rw [dv_bn2 r2], r3⟩
theorem RR_bare (h : RR A a V W) : ∃ t, f_X1_bareCells V (A 4) = (t, ()) ∧ f_X12_bareMany W a = (t, ()) ∧ 0 ≤ t := by
  obtain ⟨kk, e7, e8, e9, -⟩ := RR_n h
  refine ⟨_, q_bareCells kk.1, ?_, kg_bare kk⟩
  have e := h.2.2.1.1.1
  have hq := ef_sqf (φ := V (A 4)) e kk.1
  have k8 : V (A 4) 8 0 = kf (W a 2) 0 8 0 := e.2.2.2.1
  have k9 : V (A 4) 9 0 = kf (W a 2) 0 9 0 := e.2.2.2.2.1
  rw [q_bareMany, hq, k8, k9]
theorem c_rollUp (h : 0 ≤ c ∧ c < V fl 7 0) : f_X1_rollUp V fl c = (dv_u (dv_u V fl 3 c (-1)) fl 4 c (-1), 0) := by
  unfold f_X1_rollUp
  rw [dv_bn2 q_has, if_pos h, if_neg (by decide), bq, bq]
theorem m_rolls : f_X12_rolls W a c = (dv_u (dv_u W a 2 (9 + c) (-1)) a 2 (18 + c) (-1), 0) := by
  unfold f_X12_rolls
  rw [bq, bq, bq, bq]
/-- a carpet is rolled in both -/
theorem RR_roll (h : RR A a V W) (hc : 0 ≤ c ∧ c < V (A 4) 7 0) : RR A a (dv_u (dv_u V (A 4) 3 c (-1)) (A 4) 4 c (-1)) (dv_u (dv_u W a 2 (9 + c) (-1)) a 2 (18 + c) (-1)) := by
  obtain ⟨kk, e7, e8, e9, e10, e50, e51, e52, ec⟩ := RR_n h
  have n9 := kk.1.1
  have fj : ∀ (j : Nat) (z : Int), j ≠ 3 → j ≠ 4 → dv_u (dv_u V (A 4) 3 c (-1)) (A 4) 4 c (-1) (A 4) j z = V (A 4) j z := fun j z n3 n4 => by rw [u_j n4, u_j n3]
  have f3 : ∀ z, dv_u (dv_u V (A 4) 3 c (-1)) (A 4) 4 c (-1) (A 4) 3 z = if z = c then -1 else V (A 4) 3 z := fun z => by rw [u_j (by decide), u_if]
  have f4 : ∀ z, dv_u (dv_u V (A 4) 3 c (-1)) (A 4) 4 c (-1) (A 4) 4 z = if z = c then -1 else V (A 4) 4 z := fun z => by rw [u_if, u_j (by decide)]
  have w2 : ∀ z, dv_u (dv_u W a 2 (9 + c) (-1)) a 2 (18 + c) (-1) a 2 z = if z = 18 + c then -1 else if z = 9 + c then -1 else W a 2 z := fun z => by rw [u_if, u_if]
  have wn : ∀ z, z ≠ 9 + c → z ≠ 18 + c → dv_u (dv_u W a 2 (9 + c) (-1)) a 2 (18 + c) (-1) a 2 z = W a 2 z := fun z n1 n2 => by rw [w2, if_neg n2, if_neg n1]
  refine RR_fl h (fun b m z hb => ?_) (fun z _ => fj 5 z (by decide) (by decide)) (fun b m z hb => ?_) (fun z hz => wn z (by omega) (by omega)) ?_ ?_ (fun d d0 d9 => ⟨?_, ?_, ?_⟩) (kg_sub kk (fun d d0 d1 => ⟨fj 0 d (by decide) (by decide), fj 1 d (by decide) (by decide), ?_, ?_⟩) (fj 7 0 (by decide) (by decide)) (fj 8 0 (by decide) (by decide)) (fj 9 0 (by decide) (by decide)) ?_ ?_ (fj 5 1 (by decide) (by decide)) (fj 5 2 (by decide) (by decide)))
  · by_cases q : b = A 4
    · have q3 : m ≠ 3 := fun e => hb ⟨q, by omega⟩
      have q4 : m ≠ 4 := fun e => hb ⟨q, by omega⟩
      rw [u_j q4, u_j q3]
    · rw [u_b q, u_b q]
  · by_cases q : b = a
    · have q2 : m ≠ 2 := fun e => hb ⟨q, e⟩
      rw [u_j q2, u_j q2]
    · rw [u_b q, u_b q]
  · rw [fj 10 0 (by decide) (by decide), wn 27 (by omega) (by omega), e10]
  · rw [fj 5 0 (by decide) (by decide), wn 28 (by omega) (by omega), e50]
  · rw [fj 2 d (by decide) (by decide), wn d (by omega) (by omega)]; exact (ec d d0 d9).2.2.1
  · rw [f3, w2, if_neg (show ¬ 9 + d = 18 + c by omega)]
    by_cases q : d = c
    · rw [if_pos q, if_pos (by omega)]
    · rw [if_neg q, if_neg (by omega)]; exact (ec d d0 d9).2.2.2.1
  · rw [f4, w2]
    by_cases q : d = c
    · rw [if_pos q, if_pos (by omega)]
    · rw [if_neg q, if_neg (by omega), if_neg (by omega)]; exact (ec d d0 d9).2.2.2.2
  · rw [fj 2 d (by decide) (by decide)]; exact (kk.2.2.1 d d0 d1).2.2.2
  · rw [f3, f4]
    by_cases q : d = c
    · exact Or.inr (by rw [if_pos q])
    · rw [if_neg q, if_neg q]; exact Or.inl ⟨rfl, rfl⟩
  · rw [fj 10 0 (by decide) (by decide)]; exact kk.2.2.2.2.2.1
  · rw [fj 5 0 (by decide) (by decide)]; exact kk.2.2.2.2.2.2.1
theorem D_roll (h : RR A a V W) : ∃ V' W' t, f_X11_doRoll V (A 0) c = (V', t) ∧ f_X12_rollsKept W a c = (W', t) ∧ RR A a V' W' ∧ d_ans t ∧ DF A a V W V' W' := by
  obtain ⟨g0, g1, g10, -⟩ := RR_G h
  obtain ⟨kk, e7, e8, e9, e10, e50, e51, e52, ec⟩ := RR_n h
  have n9 := kk.1.1
  by_cases e : 0 ≤ c ∧ c < V (A 4) 7 0
  case neg =>
    have hV : f_X1_has V (A 4) c = (0, ()) := by rw [q_has, if_neg e]
    have hW : f_X12_isCarpet W a c = (0, ()) := by rw [q_isCarpet, if_neg (by rw [← e7]; exact e)]
    refine ⟨V, W, -2, ?_, ?_, h, Or.inr (Or.inr (Or.inl rfl)), DF_r⟩
    · unfold f_X11_doRoll
      rw [bq, g0, bq, g1, dv_bn2 hV, if_neg (fun q => q rfl)]
    · unfold f_X12_rollsKept
      rw [dv_bn2 hW, if_neg (fun q => q rfl)]
  case pos =>
    have hV : f_X1_has V (A 4) c = (1, ()) := by rw [q_has, if_pos e]
    have hW : f_X12_isCarpet W a c = (1, ()) := by rw [q_isCarpet, if_pos (by rw [← e7]; exact e)]
    have ex := (ec c e.1 (by omega)).2.2.2.1
    by_cases e3 : V (A 4) 3 c = -1
    · have lV : f_X1_isLaid V (A 4) c = (0, ()) := by rw [q_isLaid, if_neg (fun q => q.2.2 e3)]
      have lW : f_X12_isLaid W a c = (0, ()) := by rw [q_mLaid, if_pos (by rw [← ex]; exact e3)]
      refine ⟨V, W, -3, ?_, ?_, h, Or.inr (Or.inr (Or.inr rfl)), DF_r⟩
      · unfold f_X11_doRoll
        rw [bq, g0, bq, g1, dv_bn2 hV, if_pos (by decide), dv_bn2 lV, if_neg (fun q => q rfl)]
      · unfold f_X12_rollsKept
        rw [dv_bn2 hW, if_pos (by decide), dv_bn2 lW, if_neg (fun q => q rfl)]
    · have lV : f_X1_isLaid V (A 4) c = (1, ()) := by rw [q_isLaid, if_pos ⟨e.1, e.2, e3⟩]
      have lW : f_X12_isLaid W a c = (1, ()) := by rw [q_mLaid, if_neg (by rw [← ex]; exact e3)]
      obtain ⟨V1, W1, r1, r2, r3, r4, R⟩ := RR_note (k := 1) h (by decide)
      have v7 : V1 (A 4) 7 0 = V (A 4) 7 0 := r3 _ _ _ (fun q => absurd q.2 (by decide))
      have R2 := RR_roll (c := c) R (by rw [v7]; exact e)
      obtain ⟨t, b1, b2, b3⟩ := RR_bare R2
      refine ⟨_, _, t, ?_, ?_, R2, Or.inl b3, DF_t (DF_n h.1 r3 r4) (DF_t (DF_t (DF_t (DF_u (by decide)) (DF_u (by decide))) (DF_w (by omega))) (DF_w (by omega)))⟩
      · unfold f_X11_doRoll
        rw [bq, g0, bq, g1, dv_bn2 hV, if_pos (by decide), dv_bn2 lV, if_pos (by decide), bq, g10, dv_bn2 r1, dv_bn2 (c_rollUp (by rw [v7]; exact e)), dv_bn2 b1]
      · unfold f_X12_rollsKept
        rw [dv_bn2 hW, if_pos (by decide), dv_bn2 lW, if_pos (by decide), dv_bn2 r2, dv_bn2 m_rolls, dv_bn2 b2]
theorem L_roll (h : RR A a V W) : ∃ V' W' u, f_X11_roll V (A 0) c = (V', u) ∧ f_X12_roll W a c = (W', u) ∧ RR A a V' W' := by
  obtain ⟨V1, W1, t, e1, e2, R, ht, -⟩ := D_roll (c := c) h
  obtain ⟨V2, W2, r1, r2, r3⟩ := RR_goodOr R ht
  exact ⟨V2, W2, t, by unfold f_X11_roll; rw [dv_bn2 e1, dv_bn2 r1], by unfold f_X12_roll; rw [dv_bn2 e2, dv_bn2 r2], r3⟩
end QSV
section QSW
variable {V V' V0 V1 V2 U W W' W0 W1 W2 : dV} {a b c z t k s p x y n u o : Int} {A : Nat → Int} {K K' : Int → Int} {φ ψ : Nat → Int → Int} {j m i : Nat} {fl : Int}
/-- where judging is the same: the law in force, and the floor i -/
def JX (A : Nat → Int) (a : Int) (i : Nat) (V W : dV) : Prop := inj A ∧ G A V ∧ laR A 0 V (W a 2) 0 ∧ rdR A a V W ∧ (ef9 (V (A i)) (kf (W a 2) 0) ∧ kgf (V (A i))) ∧ (i = 4 ∨ i = 7) ∧ 0 ≤ W a 2 27 ∧ W a 2 27 ≤ 9999
theorem RR_JX (h : RR A a V W) : JX A a 4 V W := ⟨h.1, h.2.1, h.2.2.1.2.2, h.2.2.2.2.2.2.2.2.2, ⟨ef_9 h.2.2.1.1.1, h.2.2.1.1.2⟩, Or.inl rfl, by
  obtain ⟨kk, -, -, -, e10, -⟩ := RR_n h
  have := kk.2.2.2.2.2.1
  omega⟩
/-- what judging changes in the reference -/
def jm_fr (a : Int) (W W' : dV) : Prop := ∀ b m z, ¬ (b = a ∧ ((22 ≤ m ∧ m ≤ 26) ∨ m = 29)) → W' b m z = W b m z
theorem jm_t (h : jm_fr a W W') (h1 : jm_fr a W' W1) : jm_fr a W W1 := fun b m z k => (h1 b m z k).trans (h b m z k)
theorem jm_e (h : te_fr a W W') : jm_fr a W W' := fun b m z k => h b m z (fun q => k ⟨q.1, Or.inl q.2⟩)
theorem kj_cf (hA : inj A) (h : kj_fr (A 14) V V') : cf A (fun i m => i == 14 && m ≤ 3) V V' := fun i m z hi hm hL => h.1 _ m z (fun q => by
  have := hA.1 i 14 hi (by decide) q.1
  subst this
  simp at hL; omega)
theorem fl_ef9 {φ φ' ψ : Nat → Int → Int} (h : fl_eq φ φ') (e : ef9 φ ψ) : ef9 φ' ψ := by
  obtain ⟨e1, ⟨e2, e3, e4⟩, e5, e6, e7⟩ := e
  refine ⟨fun c c0 c9 => ?_, ⟨?_, ?_, ?_⟩, ?_, ?_, ?_⟩
  · rw [← h 0 c (by decide) (by decide), ← h 1 c (by decide) (by decide), ← h 2 c (by decide) (by decide), ← h 3 c (by decide) (by decide), ← h 4 c (by decide) (by decide)]; exact e1 c c0 c9
  · rw [← h 5 0 (by decide) (by decide)]; exact e2
  · rw [← h 5 1 (by decide) (by decide)]; exact e3
  · rw [← h 5 2 (by decide) (by decide)]; exact e4
  · rw [← h 7 0 (by decide) (by decide)]; exact e5
  · rw [← h 8 0 (by decide) (by decide)]; exact e6
  · rw [← h 9 0 (by decide) (by decide)]; exact e7
theorem JX_c (h : JX A a i V W) (f : kj_fr (A 14) V V') (g : jm_fr a W W') : JX A a i V' W' := by
  obtain ⟨hA, hG, hl, hr, hf, hi⟩ := h
  have F := kj_cf hA f
  have w2 : ∀ z, W' a 2 z = W a 2 z := fun z => g a 2 z (fun q => absurd q.2 (by omega))
  refine ⟨hA, G_c hG (cf_ag F rfl), laR_c (by decide) hl (cf_ag F rfl) (fun z _ => w2 _), rdR_c hr (fun z => F 10 1 z (by decide) (by decide) rfl) f.2 (fun z => g a 7 z (fun q => absurd q.2 (by omega))) (fun z => g a 17 z (fun q => absurd q.2 (by omega))), ?_, by rw [w2]; exact hi⟩
  rw [show W' a 2 = W a 2 from funext w2]
  have e : fl_eq (V (A i)) (V' (A i)) := fun j c hj _ => by
    rcases hi.1 with rfl | rfl
    · exact (F 4 j c (by decide) (by omega) (by simp)).symm
    · exact (F 7 j c (by decide) (by omega) (by simp)).symm
  exact ⟨fl_ef9 e hf.1, fl_kg e hf.2⟩
/-- judging leaves the relation -/
theorem RR_j (h : RR A a V W) (f : kj_fr (A 14) V V') (g : jm_fr a W W') : RR A a V' W' := by
  have hA := h.1
  have F := kj_cf hA f
  refine RR_idle h (cf_m F (fun i m hL => ?_)) (fun m z hm => g a m z (fun q => ?_)) f.2 (fun m z hm h6 => F 4 m z (by decide) (by omega) (by simp)) (fun z => ⟨F 15 0 z (by decide) (by decide) rfl, F 15 4 z (by decide) (by decide) rfl⟩) (fun z => g a 2 z (fun q => absurd q.2 (by omega))) (fun z => g a 31 z (fun q => absurd q.2 (by omega))) (g a 33 0 (fun q => absurd q.2 (by omega)))
  · by_cases e : i = 14
    · subst e; cases hL
    · simp [e]
  · unfold M_a at hm
    simp only [Bool.or_eq_false_iff, Bool.and_eq_false_iff, beq_eq_false_iff_ne, decide_eq_false_iff_not, ne_eq] at hm
    omega
/-- the law in force, as both have it -/
theorem JX_jd (h : JX A a i V W) : ∃ lx, f_X8_forcedLaw V (A 1) = (lx, ()) ∧ jd_ok V W (A 13) (A 14) (A i) lx a := by
  obtain ⟨hA, ⟨-, g13, -, gk⟩, ⟨l1, l2, l3, l4, l5⟩, ⟨-, -, r3⟩, ⟨hf, hk⟩, hi⟩ := h
  have gx := (gk 0 (by decide)).2
  have l1 : V (A 1) 5 0 = W a 2 71 := by have := l1; rw [Int.zero_add] at this; exact this
  have l3 : V (A 1) 6 0 = W a 2 72 := by have := l3; rw [Int.zero_add] at this; exact this
  have l2 : 0 ≤ V (A 1) 5 0 ∧ V (A 1) 5 0 ≤ 6 := l2
  have l4 : -1 ≤ V (A 1) 6 0 ∧ V (A 1) 6 0 < V (A 1) 5 0 := l4
  have hi38 : i < 38 := by omega
  have hfr : ∀ v, f_X8_lawOf V (A 1) (V (A 1) 6 0) = (v, ()) → f_X8_forcedLaw V (A 1) = (v, ()) := fun v hv => by
    unfold f_X8_forcedLaw
    rw [bq, dv_bn2 hv]
  by_cases e : V (A 1) 6 0 = -1
  · refine ⟨-1, hfr _ (by rw [c_lawOf, if_neg (by omega)]), g13, inj_n hA (by decide) (by decide) (by decide), inj_n hA hi38 (by decide) (by omega), Ne.symm (hA.2 14 (by decide)), Or.inl ⟨by omega, rfl⟩, hf, hk, r3⟩
  · obtain ⟨n, hn⟩ : ∃ n : Nat, (n : Int) = V (A 1) 6 0 := ⟨(V (A 1) 6 0).toNat, by omega⟩
    have hx : V (A 1) 1 (V (A 1) 6 0) = A (20 + n) := by
      have := gx n (by omega)
      rw [hn] at this
      rw [show 20 + 6 * 0 + n = 20 + n by omega] at this
      exact this
    refine ⟨A (20 + n), hfr _ (by rw [c_lawOf, if_pos (by omega), hx]), g13, inj_n hA (by decide) (by decide) (by decide), inj_n hA hi38 (by decide) (by omega), inj_n hA (by omega) (by decide) (by omega), Or.inr ⟨by omega, hA.2 _ (by omega), ?_⟩, hf, hk, r3⟩
    obtain ⟨-, -, t3⟩ := l5 n (by show (n : Int) < V (A 1) 5 0; omega)
    rw [hn, l3, Int.zero_add, show 20 + 6 * 0 + n = 20 + n by omega] at t3
    exact t3
theorem kf_at (e : ef9 φ (kf K 0)) (hk : kgf φ) (h27 : 0 ≤ K 27 ∧ K 27 ≤ 9999) : kgf (kf K 0) := by
  obtain ⟨e1, ⟨e2, e3, e4⟩, e5, e6, e7⟩ := e
  have hk' : kgf (fun j z => if j = 10 then K 27 else φ j z) := by
    obtain ⟨k1, k2, k3, k4, k5, k6, k7, k8, k9⟩ := hk
    exact ⟨k1, k2, k3, k4, k5, h27, k7, k8, k9⟩
  exact kg_9 hk' (fun c c0 c9 => by obtain ⟨q0, q1, q2, q3, q4⟩ := e1 c c0 c9; exact ⟨q0.symm, q1.symm, q2.symm, q3.symm, q4.symm⟩) ⟨e2.symm, e3.symm, e4.symm⟩ e5.symm e6.symm e7.symm (by show K (0 + 27) = K 27; rw [Int.zero_add])
/-- whether a carpet can be LAID, in both -/
theorem q_can (h : JX A a i V W) (c0 : 0 ≤ c) (c1 : c < V (A i) 7 0) (hx : 0 ≤ x ∧ x ≤ 11) (hy : 0 ≤ y ∧ y ≤ 11) : ∃ (V' W' : dV) (u : Int), f_X11_canLie V (A 0) (A i) c x y = (V', u) ∧ f_X12_canLay W a c x y = (W', u) ∧ kj_fr (A 14) V V' ∧ jm_fr a W W' ∧ (u = 1 ∧ plc (V (A i)) c x y ∨ u = 0) := by
  obtain ⟨lx, hlx, hjd⟩ := JX_jd h
  obtain ⟨hA, ⟨⟨g0, -, -, -, -, -, -, -, -, g9, -⟩, -, -, -⟩, -, -, ⟨hf, hk⟩, hi⟩ := id h
  have ek := ef9_n hf
  have hK := kf_at hf hk hi.2
  have hKb := hK.1
  obtain ⟨e7, e8, e9, -, -, -, ec⟩ := ek
  have n9 := hk.1.1
  obtain ⟨-, -, e2, e3, -⟩ := ec c c0 (by omega)
  have kr : kj_fr (A 14) V V := ⟨fun _ _ _ _ => rfl, fun _ _ => rfl⟩
  obtain ⟨r, hr, hr'⟩ := q_hasPlace (c := c) (x := x) (y := y) hk.1 hx.2 hy.2
  -- the class
  have CV : ∀ (V1 : dV) (y1 : Int), f_X2_isBarred V (A 13) lx (A i) c x y = (V1, y1) → f_X11_canLie V (A 0) (A i) c x y = if r = 0 then (V, 0) else if y1 ≠ 0 then (V1, 0) else (V1, 1) := by
    intro V1 y1 hb
    unfold f_X11_canLie
    rw [dv_bn2 hr]
    by_cases q : r = 0
    · rw [if_pos q, if_pos q]
    · rw [if_neg q, if_neg q, bq, g9, bq, g0, dv_bn2 hlx, dv_bn2 hb]
  obtain ⟨V1, W1, y1, b1, b2, b3, b4, b5⟩ := q_bar hjd c0 c1 hx hy
  have eV := CV V1 y1 b1
  by_cases p : plc (V (A i)) c x y
  · have hr1 : r = 1 := by rcases hr' with q | q; exact q.1; exact absurd p q.2
    obtain ⟨-, ⟨pr, pw⟩, -, ⟨px, py⟩, -⟩ := id p
    -- the reference looks at what is covered
    obtain ⟨U, c1', c2, c3⟩ := q_covered (V := W) (a := a) hKb (fun d d0 d1 hd => by
      have h1 := hK.2.2.2.1 d d0 (by simp only [kf, Int.zero_add]; exact d1) (by simp only [kf, Int.zero_add]; exact hd)
      have h2 := hKb.2.1.2
      have h3 := hKb.2.2.1.2
      simp only [kf, Int.zero_add] at h1 h2 h3
      omega) hK.2.1
    have u2 : ∀ z, U a 2 z = W a 2 z := fun z => c2 a 2 z (fun q => absurd q.2 (by decide))
    have hs0 : 0 ≤ W a 2 (29 + c) := by have := (ec c c0 (by omega)).1; rw [← this]; exact (hk.1.2.2.2 c c0 c1).1.1
    obtain ⟨r2, f1, f2, f3⟩ := q_isFree (V := U) (a := a) (s := W a 2 (29 + c)) (x := x) (y := y) (w := W a 2 67) (h := W a 2 68) hs0
    have hfr := q_free_plc (W := U) hK c3 c0 (by rw [← e7]; exact c1) hx.1 hy.1 hx.2 hy.2 (by rw [← e3]; exact pr) (by rw [← e2]; exact pw)
    have r21 : r2 = 1 := f3.mpr (hfr.mpr ((ef9_plc hf (by omega)).mp p))
    have jU : jd_ok V U (A 13) (A 14) (A i) lx a := by
      obtain ⟨q1, q2, q3, q4, q5, q6, q7, q8⟩ := hjd
      have eU : U a 2 = W a 2 := funext u2
      refine ⟨q1, q2, q3, q4, ?_, by rw [eU]; exact q6, q7, q8⟩
      unfold lw_ok
      rw [eU]
      exact q5
    obtain ⟨V2, W2, y2, d1, d2, d3, d4, d5⟩ := q_bar jU c0 c1 hx hy
    have ey : V2 = V1 ∧ y2 = y1 := by
      rw [b1] at d1
      exact ⟨(congrArg Prod.fst d1).symm, (congrArg Prod.snd d1).symm⟩
    have lW : f_X12_isLaid W a c = (0, ()) := by rw [q_mLaid, if_pos (by rw [← e3]; exact pr)]
    have wW : f_X12_isWhole W a c = (1, ()) := by rw [q_mWhole, if_pos (by rw [← e2]; exact pw)]
    have jm : jm_fr a W W2 := jm_t (fun b m z q => c2 b m z (fun w => q ⟨w.1, Or.inr w.2⟩)) (jm_e d4)
    rw [if_neg (by rw [hr1]; decide)] at eV
    have eW : f_X12_canLay W a c x y = if y2 ≠ 0 then (W2, 0) else (W2, 1) := by
      unfold f_X12_canLay
      rw [dv_bn2 lW, if_neg (fun q => q rfl), dv_bn2 wW, if_pos (by decide), dv_bn2 c1', bq, bq, u2, bq, u2, bq, u2, dv_bn2 f1, if_neg (by rw [r21]; decide), dv_bn2 d2]
    by_cases q : y1 ≠ 0
    · rw [if_pos q] at eV
      rw [ey.2, if_pos q] at eW
      exact ⟨V1, W2, 0, eV, eW, b3, jm, Or.inr rfl⟩
    · rw [if_neg q] at eV
      rw [ey.2, if_neg q] at eW
      exact ⟨V1, W2, 1, eV, eW, b3, jm, Or.inl ⟨rfl, p⟩⟩
  · have hr0 : r = 0 := by rcases hr' with q | q; exact absurd q.2 p; exact q.1
    rw [if_pos hr0] at eV
    by_cases l3 : V (A i) 3 c = -1
    · have lW : f_X12_isLaid W a c = (0, ()) := by rw [q_mLaid, if_pos (by rw [← e3]; exact l3)]
      by_cases l2 : 0 < V (A i) 2 c
      · have wW : f_X12_isWhole W a c = (1, ()) := by rw [q_mWhole, if_pos (by rw [← e2]; exact l2)]
        obtain ⟨U, c1', c2, c3⟩ := q_covered (V := W) (a := a) hKb (fun d d0 d1 hd => by
          have h1 := hK.2.2.2.1 d d0 (by simp only [kf, Int.zero_add]; exact d1) (by simp only [kf, Int.zero_add]; exact hd)
          have h2 := hKb.2.1.2
          have h3 := hKb.2.2.1.2
          simp only [kf, Int.zero_add] at h1 h2 h3
          omega) hK.2.1
        have u2 : ∀ z, U a 2 z = W a 2 z := fun z => c2 a 2 z (fun q => absurd q.2 (by decide))
        have hs0 : 0 ≤ W a 2 (29 + c) := by have := (ec c c0 (by omega)).1; rw [← this]; exact (hk.1.2.2.2 c c0 c1).1.1
        obtain ⟨r2, f1, f2, f3⟩ := q_isFree (V := U) (a := a) (s := W a 2 (29 + c)) (x := x) (y := y) (w := W a 2 67) (h := W a 2 68) hs0
        have hfr := q_free_plc (W := U) hK c3 c0 (by rw [← e7]; exact c1) hx.1 hy.1 hx.2 hy.2 (by rw [← e3]; exact l3) (by rw [← e2]; exact l2)
        have r20 : r2 = 0 := by
          rcases f2 with q | q
          · exact absurd ((ef9_plc hf (by omega)).mpr (hfr.mp (f3.mp q))) p
          · exact q
        refine ⟨V, U, 0, eV, ?_, kr, fun b m z q => c2 b m z (fun w => q ⟨w.1, Or.inr w.2⟩), Or.inr rfl⟩
        unfold f_X12_canLay
        rw [dv_bn2 lW, if_neg (fun q => q rfl), dv_bn2 wW, if_pos (by decide), dv_bn2 c1', bq, bq, u2, bq, u2, bq, u2, dv_bn2 f1, if_pos r20]
      · have wW : f_X12_isWhole W a c = (0, ()) := by rw [q_mWhole, if_neg (by rw [← e2]; exact l2)]
        refine ⟨V, W, 0, eV, ?_, kr, fun _ _ _ _ => rfl, Or.inr rfl⟩
        unfold f_X12_canLay
        rw [dv_bn2 lW, if_neg (fun q => q rfl), dv_bn2 wW, if_neg (fun q => q rfl)]
    · have lW : f_X12_isLaid W a c = (1, ()) := by rw [q_mLaid, if_neg (by rw [← e3]; exact l3)]
      refine ⟨V, W, 0, eV, ?_, kr, fun _ _ _ _ => rfl, Or.inr rfl⟩
      unfold f_X12_canLay
      rw [dv_bn2 lW, if_pos (by decide)]
end QSW
section QSX
variable {V V' V0 V1 V2 U W W' W0 W1 W2 : dV} {a b c z t k s p x y n u o : Int} {A : Nat → Int} {K K' : Int → Int} {φ ψ : Nat → Int → Int} {j m i : Nat} {fl : Int}
theorem kj_b (hA : inj A) (f : kj_fr (A 14) V V') {i : Nat} (hi : i < 38) (hn : i ≠ 14) {m : Nat} {z : Int} : V' (A i) m z = V (A i) m z := f.1 _ m z (fun q => inj_n hA hi (by decide) hn q.1)
/-- a carpet is put at its place in both -/
theorem RR_put (h : RR A a V W) (hp : plc (V (A 4)) c x y) (hx : x ≤ 11) (hy : y ≤ 11) (ht : 0 ≤ t ∧ t ≤ 99) : RR A a (dv_u (dv_u (dv_u V (A 4) 3 c x) (A 4) 4 c y) (A 4) 10 0 (min 9999 (dv_add (V (A 4) 10 0) t))) (dv_u (dv_u (dv_u W a 2 (9 + c) x) a 2 (18 + c) y) a 2 27 (min 9999 (dv_add (W a 2 27) t))) := by
  obtain ⟨kk, e7, e8, e9, e10, e50, e51, e52, ec⟩ := RR_n h
  have n9 := kk.1.1
  have hc := hp.1
  have hpd := kk.2.2.2.2.2.1
  have ha : dv_add (V (A 4) 10 0) t = V (A 4) 10 0 + t := dv_add_ok (by omega) (by omega) (by omega) (by omega) (by omega) (by omega)
  have fj : ∀ (j : Nat) (z : Int), j ≠ 3 → j ≠ 4 → j ≠ 10 → dv_u (dv_u (dv_u V (A 4) 3 c x) (A 4) 4 c y) (A 4) 10 0 (min 9999 (dv_add (V (A 4) 10 0) t)) (A 4) j z = V (A 4) j z := fun j z n3 n4 n10 => by rw [u_j n10, u_j n4, u_j n3]
  have f3 : ∀ z, dv_u (dv_u (dv_u V (A 4) 3 c x) (A 4) 4 c y) (A 4) 10 0 (min 9999 (dv_add (V (A 4) 10 0) t)) (A 4) 3 z = if z = c then x else V (A 4) 3 z := fun z => by rw [u_j (by decide), u_j (by decide), u_if]
  have f4 : ∀ z, dv_u (dv_u (dv_u V (A 4) 3 c x) (A 4) 4 c y) (A 4) 10 0 (min 9999 (dv_add (V (A 4) 10 0) t)) (A 4) 4 z = if z = c then y else V (A 4) 4 z := fun z => by rw [u_j (by decide), u_if, u_j (by decide)]
  have f10 : dv_u (dv_u (dv_u V (A 4) 3 c x) (A 4) 4 c y) (A 4) 10 0 (min 9999 (dv_add (V (A 4) 10 0) t)) (A 4) 10 0 = min 9999 (dv_add (V (A 4) 10 0) t) := u_e
  have w2 : ∀ z, dv_u (dv_u (dv_u W a 2 (9 + c) x) a 2 (18 + c) y) a 2 27 (min 9999 (dv_add (W a 2 27) t)) a 2 z = if z = 27 then min 9999 (dv_add (W a 2 27) t) else if z = 18 + c then y else if z = 9 + c then x else W a 2 z := fun z => by rw [u_if, u_if, u_if]
  have wn : ∀ z, z ≠ 27 → z ≠ 9 + c → z ≠ 18 + c → dv_u (dv_u (dv_u W a 2 (9 + c) x) a 2 (18 + c) y) a 2 27 (min 9999 (dv_add (W a 2 27) t)) a 2 z = W a 2 z := fun z n0 n1 n2 => by rw [w2, if_neg n0, if_neg n2, if_neg n1]
  refine RR_fl h (fun b m z hb => ?_) (fun z _ => fj 5 z (by decide) (by decide) (by decide)) (fun b m z hb => ?_) (fun z hz => wn z (by omega) (by omega) (by omega)) ?_ ?_ (fun d d0 d9 => ⟨?_, ?_, ?_⟩) (kg_lay kk hp fj f3 f4 ?_)
  · by_cases q : b = A 4
    · have q3 : m ≠ 3 := fun e => hb ⟨q, by omega⟩
      have q4 : m ≠ 4 := fun e => hb ⟨q, by omega⟩
      have q10 : m ≠ 10 := fun e => hb ⟨q, by omega⟩
      rw [u_j q10, u_j q4, u_j q3]
    · rw [u_b q, u_b q, u_b q]
  · by_cases q : b = a
    · have q2 : m ≠ 2 := fun e => hb ⟨q, e⟩
      rw [u_j q2, u_j q2, u_j q2]
    · rw [u_b q, u_b q, u_b q]
  · rw [f10, w2, if_pos rfl, e10]
  · rw [fj 5 0 (by decide) (by decide) (by decide), wn 28 (by omega) (by omega) (by omega), e50]
  · rw [fj 2 d (by decide) (by decide) (by decide), wn d (by omega) (by omega) (by omega)]; exact (ec d d0 d9).2.2.1
  · rw [f3, w2, if_neg (show ¬ 9 + d = 27 by omega), if_neg (show ¬ 9 + d = 18 + c by omega)]
    by_cases q : d = c
    · rw [if_pos q, if_pos (by omega)]
    · rw [if_neg q, if_neg (by omega)]; exact (ec d d0 d9).2.2.2.1
  · rw [f4, w2, if_neg (show ¬ 18 + d = 27 by omega)]
    by_cases q : d = c
    · rw [if_pos q, if_pos (by omega)]
    · rw [if_neg q, if_neg (by omega), if_neg (by omega)]; exact (ec d d0 d9).2.2.2.2
  · rw [f10, ha]; omega
theorem m_laysAt {W1 : dV} (h : f_X12_costsAt W a c x y = (W1, t)) : f_X12_laysAt W a c x y = (dv_u (dv_u (dv_u W1 a 2 (9 + c) x) a 2 (18 + c) y) a 2 27 (min 9999 (dv_add (dv_u (dv_u W1 a 2 (9 + c) x) a 2 (18 + c) y a 2 27) t)), t) := by
  unfold f_X12_laysAt
  rw [dv_bn2 h, bq, bq, bq, bq, bq, bq, dv_bn2 q_lesser, bq]
theorem DF_j (hA : inj A) (f : kj_fr (A 14) V V') (g : jm_fr a W W') : DF A a V W V' W' := ⟨fun b m z _ p _ => f.1 b m z p, fun z _ => f.1 _ _ _ (fun q => inj_n hA (by decide) (by decide) (by decide) q.1), fun b m z p => g b m z (fun q => p ⟨q.1, by omega⟩), fun z _ => g _ _ _ (fun q => absurd q.2 (by omega))⟩
theorem D_lay (h : RR A a V W) : ∃ V' W' t, f_X11_doLay V (A 0) c x y = (V', t) ∧ f_X12_laysKept W a c x y = (W', t) ∧ RR A a V' W' ∧ d_ans t ∧ DF A a V W V' W' ∧ t ≤ 99 := by
  have hA := h.1
  obtain ⟨g0, g1, g10, -, g9, -⟩ := RR_G h
  obtain ⟨kk, e7, e8, e9, e10, e50, e51, e52, ec⟩ := RR_n h
  have n9 := kk.1.1
  by_cases hxy : (0 ≤ x ∧ x ≤ 11) ∧ 0 ≤ y ∧ y ≤ 11
  case neg =>
    refine ⟨V, W, -1, ?_, ?_, h, Or.inr (Or.inl rfl), DF_r, by decide⟩
    · unfold f_X11_doLay
      rw [bq, g0, bq, g1, dv_bn2 c_onGrid]
      by_cases hx : 0 ≤ x ∧ x ≤ 11
      · rw [if_pos hx, if_neg (by decide), dv_bn2 c_onGrid, if_neg (fun q => hxy ⟨hx, q⟩), if_neg (fun q => q rfl)]
      · rw [if_neg hx, if_pos rfl]
    · unfold f_X12_laysKept
      rw [dv_bn2 q_isAlong]
      by_cases hx : 0 ≤ x ∧ x ≤ 11
      · rw [if_pos hx, if_neg (by decide), dv_bn2 q_isAlong, if_neg (fun q => hxy ⟨hx, q⟩), if_neg (fun q => q rfl)]
      · rw [if_neg hx, if_pos rfl]
  case pos =>
    obtain ⟨hx, hy⟩ := hxy
    have gV : f_X11_onGrid V x = (1, ()) ∧ f_X11_onGrid V y = (1, ()) := ⟨by rw [c_onGrid, if_pos hx], by rw [c_onGrid, if_pos hy]⟩
    have gW : f_X12_isAlong W x = (1, ()) ∧ f_X12_isAlong W y = (1, ()) := ⟨by rw [q_isAlong, if_pos hx], by rw [q_isAlong, if_pos hy]⟩
    by_cases e : 0 ≤ c ∧ c < V (A 4) 7 0
    case neg =>
      have hV : f_X1_has V (A 4) c = (0, ()) := by rw [q_has, if_neg e]
      have hW : f_X12_isCarpet W a c = (0, ()) := by rw [q_isCarpet, if_neg (by rw [← e7]; exact e)]
      refine ⟨V, W, -2, ?_, ?_, h, Or.inr (Or.inr (Or.inl rfl)), DF_r, by decide⟩
      · unfold f_X11_doLay
        rw [bq, g0, bq, g1, dv_bn2 gV.1, if_neg (by decide), dv_bn2 gV.2, if_pos (by decide), dv_bn2 hV, if_neg (fun q => q rfl)]
      · unfold f_X12_laysKept
        rw [dv_bn2 gW.1, if_neg (by decide), dv_bn2 gW.2, if_pos (by decide), dv_bn2 hW, if_neg (fun q => q rfl)]
    case pos =>
      have hV : f_X1_has V (A 4) c = (1, ()) := by rw [q_has, if_pos e]
      have hW : f_X12_isCarpet W a c = (1, ()) := by rw [q_isCarpet, if_pos (by rw [← e7]; exact e)]
      obtain ⟨V1, W1, u, c1, c2, c3, c4, c5⟩ := q_can (RR_JX h) e.1 e.2 hx hy
      have R1 := RR_j h c3 c4
      by_cases eu : u = 1
      case neg =>
        have u0 : u = 0 := by rcases c5 with q | q; exact absurd q.1 eu; exact q
        subst u0
        refine ⟨V1, W1, -3, ?_, ?_, R1, Or.inr (Or.inr (Or.inr rfl)), DF_j hA c3 c4, by decide⟩
        · unfold f_X11_doLay
          rw [bq, g0, bq, g1, dv_bn2 gV.1, if_neg (by decide), dv_bn2 gV.2, if_pos (by decide), dv_bn2 hV, if_pos (by decide), dv_bn2 c1, if_neg (fun q => q rfl)]
        · unfold f_X12_laysKept
          rw [dv_bn2 gW.1, if_neg (by decide), dv_bn2 gW.2, if_pos (by decide), dv_bn2 hW, if_pos (by decide), dv_bn2 c2, if_neg (fun q => q rfl)]
      case pos =>
        subst eu
        have hp : plc (V (A 4)) c x y := by rcases c5 with q | q; exact q.2; exact absurd q (by decide)
        -- what it costs, ahead of the note and behind it
        obtain ⟨lx, hlx, hjd⟩ := JX_jd (RR_JX R1)
        have v1 : ∀ m z, V1 (A 4) m z = V (A 4) m z := fun m z => kj_b hA c3 (by decide) (by decide)
        obtain ⟨V2, W2x, t, d1, d2, d3, d4, d5⟩ := q_cost (c := c) (px := x) (py := y) hjd e.1 (by rw [v1]; exact e.2) hx hy
        have R2 : RR A a V2 W1 := RR_j R1 d3 (fun _ _ _ _ => rfl)
        obtain ⟨V3, W3, n1, n2, n3, n4, R3⟩ := RR_note (k := 0) R2 (by decide)
        -- the reference asks what it costs behind the note
        obtain ⟨lx', hlx', hjd'⟩ := JX_jd (RR_JX (show RR A a V3 W3 from R3))
        have w32 : ∀ z, W3 a 2 z = W1 a 2 z := fun z => n4 a 2 z (fun q => absurd q.2 (by decide))
        obtain ⟨W4, m1, m2⟩ : ∃ W4, f_X12_costsAt W3 a c x y = (W4, t) ∧ te_fr a W3 W4 := by
          have jU : jd_ok V1 W3 (A 13) (A 14) (A 4) lx a := by
            obtain ⟨q1, q2, q3, q4, q5, q6, q7, q8⟩ := hjd
            have eU : W3 a 2 = W1 a 2 := funext w32
            refine ⟨q1, q2, q3, q4, ?_, by rw [eU]; exact q6, q7, q8⟩
            unfold lw_ok
            rw [eU]
            exact q5
          obtain ⟨V2', W4, t', p1, p2, p3, p4, p5⟩ := q_cost (c := c) (px := x) (py := y) jU e.1 (by rw [v1]; exact e.2) hx hy
          have et : t' = t := by
            rw [d1] at p1
            exact (congrArg Prod.snd p1).symm
          rw [et] at p2
          exact ⟨W4, p2, p4⟩
        have R4 : RR A a V3 W4 := RR_j R3 ⟨fun _ _ _ _ => rfl, fun _ _ => rfl⟩ (jm_e m2)
        have v3 : ∀ m z, V3 (A 4) m z = V (A 4) m z := fun m z => by rw [n3 _ m z (fun q => inj_n hA (by decide) (by decide) (by decide) q.1), kj_b hA d3 (by decide) (by decide), v1]
        have hp3 : plc (V3 (A 4)) c x y := by
          rw [show V3 (A 4) = V (A 4) from funext fun m => funext fun z => v3 m z]; exact hp
        have R5 := RR_put R4 hp3 hx.2 hy.2 ⟨d5.1, d5.2⟩
        refine ⟨_, _, t, ?_, ?_, R5, Or.inl d5.1, DF_t (DF_t (DF_t (DF_j hA c3 c4) (DF_j hA d3 (fun _ _ _ _ => rfl))) (DF_n hA n3 n4)) (DF_t (DF_j hA ⟨fun _ _ _ _ => rfl, fun _ _ => rfl⟩ (jm_e m2)) (DF_t (DF_t (DF_t (DF_t (DF_t (DF_u (by decide)) (DF_u (by decide))) (DF_u (by decide))) (DF_w (by omega))) (DF_w (by omega))) (DF_w (by omega)))), d5.2⟩
        · have q9 : V1 (A 0) 9 0 = A 13 := by rw [kj_b hA c3 (by decide) (by decide), g9]
          have q0 : V1 (A 0) 0 0 = A 1 := by rw [kj_b hA c3 (by decide) (by decide), g0]
          have q10 : V2 (A 0) 10 0 = A 15 := by rw [kj_b hA d3 (by decide) (by decide), kj_b hA c3 (by decide) (by decide), g10]
          have q11 : dv_u (dv_u V3 (A 4) 3 c x) (A 4) 4 c y (A 4) 10 0 = V3 (A 4) 10 0 := by rw [u_j (by decide), u_j (by decide)]
          unfold f_X11_doLay
          rw [bq, g0, bq, g1, dv_bn2 gV.1, if_neg (by decide), dv_bn2 gV.2, if_pos (by decide), dv_bn2 hV, if_pos (by decide), dv_bn2 c1, if_pos (by decide), bq, q9, bq, q0, dv_bn2 hlx, dv_bn2 d1, bq, q10, dv_bn2 n1, bq, bq, bq, q11, bq, bq, bq]
        · have q27 : dv_u (dv_u W4 a 2 (9 + c) x) a 2 (18 + c) y a 2 27 = W4 a 2 27 := by
            have := n9
            rw [u_i (by omega), u_i (by omega)]
          unfold f_X12_laysKept
          rw [dv_bn2 gW.1, if_neg (by decide), dv_bn2 gW.2, if_pos (by decide), dv_bn2 hW, if_pos (by decide), dv_bn2 c2, if_pos (by decide), dv_bn2 n2, dv_bn2 (m_laysAt m1), q27]
theorem L_lay (h : RR A a V W) : ∃ V' W' u, f_X11_lay V (A 0) c x y = (V', u) ∧ f_X12_lay W a c x y = (W', u) ∧ RR A a V' W' := by
  obtain ⟨V1, W1, t, e1, e2, R, ht, -⟩ := D_lay (c := c) (x := x) (y := y) h
  obtain ⟨V2, W2, r1, r2, r3⟩ := RR_goodOr R ht
  exact ⟨V2, W2, t, by unfold f_X11_lay; rw [dv_bn2 e1, dv_bn2 r1], by unfold f_X12_lay; rw [dv_bn2 e2, dv_bn2 r2], r3⟩
-- the hall mirrored
theorem c_turn (hk : kgf (V fl)) : ∃ V' : dV, f_X1_turnOver V fl = (V', qs (fun i => if V fl 3 (i : Int) ≠ -1 then 1 else 0) (V fl 7 0).toNat) ∧ (∀ b m z, ¬ (b = fl ∧ m = 3) → V' b m z = V b m z) ∧ ∀ z, V' fl 3 z = if (0 ≤ z ∧ z < V fl 7 0) ∧ V fl 3 z ≠ -1 then V fl 8 0 - V fl 3 z - V fl 0 z else V fl 3 z := by
  have n9 := hk.1.1
  unfold f_X1_turnOver
  refine dv_inv (P := fun q => ∃ (U : dV) (j : Nat), q = (U, fl, qs (fun i => if V fl 3 (i : Int) ≠ -1 then 1 else 0) j, (j : Int)) ∧ (j : Int) ≤ V fl 7 0 ∧ (∀ b m z, ¬ (b = fl ∧ m = 3) → U b m z = V b m z) ∧ ∀ z, U fl 3 z = if (0 ≤ z ∧ z < (j : Int)) ∧ V fl 3 z ≠ -1 then V fl 8 0 - V fl 3 z - V fl 0 z else V fl 3 z) (Q := fun q => ∃ V' : dV, q = (V', qs (fun i => if V fl 3 (i : Int) ≠ -1 then 1 else 0) (V fl 7 0).toNat) ∧ (∀ b m z, ¬ (b = fl ∧ m = 3) → V' b m z = V b m z) ∧ ∀ z, V' fl 3 z = if (0 ≤ z ∧ z < V fl 7 0) ∧ V fl 3 z ≠ -1 then V fl 8 0 - V fl 3 z - V fl 0 z else V fl 3 z) (m := fun q => (V fl 7 0 - q.2.2.2).toNat) ?_ _ ⟨V, 0, rfl, by omega, fun _ _ _ _ => rfl, fun z => by rw [if_neg (by omega)]⟩
  rintro q ⟨U, j, rfl, j1, hf, hz⟩
  have uj : ∀ (m : Nat) (z : Int), m ≠ 3 → U fl m z = V fl m z := fun m z hm => hf fl m z (fun q => hm q.2)
  have u3 : U fl 3 (j : Int) = V fl 3 (j : Int) := by rw [hz, if_neg (by omega)]
  rw [f_X1_turnOver_4e]
  unfold f_X1_turnOver_4c f_X1_turnOver_47
  rw [bq, uj 7 0 (by decide)]
  by_cases e : V fl 7 0 ≤ (j : Int)
  · rw [if_pos e]
    have ej : (V fl 7 0).toNat = j := by omega
    refine Or.inr ⟨_, rfl, U, by rw [ej], hf, fun z => ?_⟩
    rw [hz, show V fl 7 0 = (j : Int) by omega]
  · rw [if_neg e]
    have hb := qs_b (f := fun i : Nat => if V fl 3 (i : Int) ≠ -1 then (1 : Int) else 0) (n := j) (k := 1) (fun i _ => by split <;> omega)
    by_cases e3 : V fl 3 (j : Int) = -1
    · have lV : f_X1_isLaid U fl (j : Int) = (0, ()) := by rw [q_isLaid, if_neg (fun q => q.2.2 (by rw [u3]; exact e3))]
      rw [dv_bn2 lV, if_pos rfl, bq]
      refine Or.inl ⟨_, rfl, ⟨U, j + 1, ?_, by omega, hf, fun z => ?_⟩, by dsimp only; omega⟩
      · show _ = (U, fl, qs (fun i => if V fl 3 (i : Int) ≠ -1 then 1 else 0) j + (if V fl 3 (j : Int) ≠ -1 then 1 else 0), ((j + 1 : Nat) : Int))
        rw [if_neg (fun q => q e3), Int.add_zero]; rfl
      · rw [hz]
        by_cases q : (0 ≤ z ∧ z < (j : Int)) ∧ V fl 3 z ≠ -1
        · rw [if_pos q, if_pos ⟨by omega, q.2⟩]
        · rw [if_neg q]
          by_cases q1 : (0 ≤ z ∧ z < ((j + 1 : Nat) : Int)) ∧ V fl 3 z ≠ -1
          · have : z = (j : Int) := by
              by_cases q2 : z < (j : Int)
              · exact absurd ⟨⟨q1.1.1, q2⟩, q1.2⟩ q
              · omega
            rw [this] at q1
            exact absurd e3 q1.2
          · rw [if_neg q1]
    · have lV : f_X1_isLaid U fl (j : Int) = (1, ()) := by rw [q_isLaid, if_pos ⟨by omega, by rw [uj 7 0 (by decide)]; omega, by rw [u3]; exact e3⟩]
      have hc := (hk.1.2.2.2 (j : Int) (by omega) (by omega))
      have hp := hc.2.resolve_left e3
      have hw := hk.1.2.1
      have s1 : dv_sub (V fl 8 0) (V fl 3 (j : Int)) = V fl 8 0 - V fl 3 (j : Int) := dv_sub_ok (by omega) (by omega) (by omega) (by omega) (by omega) (by omega)
      rw [dv_bn2 lV, if_neg (by decide), bq, bq, uj 8 0 (by decide), u3, bq, bq, uj 0 _ (by decide), s1, bq, dv_sub_ok (by omega) (by omega) (by omega) (by omega) (by omega) (by omega), bq, bq, dv_add_ok (by omega) (by omega) (by omega) (by omega) (by omega) (by omega), bq]
      refine Or.inl ⟨_, rfl, ⟨dv_u U fl 3 (j : Int) (V fl 8 0 - V fl 3 (j : Int) - V fl 0 (j : Int)), j + 1, ?_, by omega, fun b m z h => ?_, fun z => ?_⟩, by dsimp only; omega⟩
      · show _ = (_, fl, qs (fun i => if V fl 3 (i : Int) ≠ -1 then 1 else 0) j + (if V fl 3 (j : Int) ≠ -1 then 1 else 0), ((j + 1 : Nat) : Int))
        rw [if_pos e3]; rfl
      · by_cases q : b = fl
        · rw [u_j (fun w => h ⟨q, w⟩)]; exact hf b m z h
        · rw [u_b q]; exact hf b m z h
      · rw [u_if]
        by_cases q : z = (j : Int)
        · rw [if_pos q, if_pos ⟨by omega, by rw [q]; exact e3⟩, q]
        · rw [if_neg q, hz]
          by_cases q1 : (0 ≤ z ∧ z < (j : Int)) ∧ V fl 3 z ≠ -1
          · rw [if_pos q1, if_pos ⟨by omega, q1.2⟩]
          · rw [if_neg q1, if_neg (fun w => q1 ⟨by omega, w.2⟩)]
theorem m_turn (hn : 0 ≤ W a 2 69 ∧ W a 2 69 ≤ 9) : ∃ W' : dV, (∀ v, f_X12_laidMany W' a = (v, ()) → dv_lp f_X12_mirrorsKept_7b (W, a, 0) = (W', v)) ∧ (∀ b m z, ¬ (b = a ∧ m = 2) → W' b m z = W b m z) ∧ ∀ z, W' a 2 z = if 9 ≤ z ∧ z < 9 + W a 2 69 then (if W a 2 z = -1 then -1 else W a 2 67 - W a 2 z - W a 2 (z + 20)) else W a 2 z := by
  have L : ∃ (W' : dV), dv_lp f_X12_mirrorsKept_7b (W, a, 0) = (W', (f_X12_laidMany W' a).1) ∧ (∀ b m z, ¬ (b = a ∧ m = 2) → W' b m z = W b m z) ∧ ∀ z, W' a 2 z = if 9 ≤ z ∧ z < 9 + W a 2 69 then (if W a 2 z = -1 then -1 else W a 2 67 - W a 2 z - W a 2 (z + 20)) else W a 2 z := by
    refine dv_inv (P := fun q => ∃ (U : dV) (j : Int), q = (U, a, j) ∧ 0 ≤ j ∧ j ≤ W a 2 69 ∧ (∀ b m z, ¬ (b = a ∧ m = 2) → U b m z = W b m z) ∧ ∀ z, U a 2 z = if 9 ≤ z ∧ z < 9 + j then (if W a 2 z = -1 then -1 else W a 2 67 - W a 2 z - W a 2 (z + 20)) else W a 2 z) (Q := fun q => ∃ W' : dV, q = (W', (f_X12_laidMany W' a).1) ∧ (∀ b m z, ¬ (b = a ∧ m = 2) → W' b m z = W b m z) ∧ ∀ z, W' a 2 z = if 9 ≤ z ∧ z < 9 + W a 2 69 then (if W a 2 z = -1 then -1 else W a 2 67 - W a 2 z - W a 2 (z + 20)) else W a 2 z) (m := fun q => (W a 2 69 - q.2.2).toNat) ?_ _ ⟨W, 0, rfl, by omega, hn.1, fun _ _ _ _ => rfl, fun z => by rw [if_neg (by omega)]⟩
    rintro q ⟨U, j, rfl, j0, j1, hf, hz⟩
    have u69 : U a 2 69 = W a 2 69 := by rw [hz, if_neg (by omega)]
    rw [f_X12_mirrorsKept_7e]
    unfold f_X12_mirrorsKept_7c
    rw [dv_bn2 q_many, u69]
    by_cases e : W a 2 69 ≤ j
    · rw [if_pos e, bq2]
      refine Or.inr ⟨_, rfl, U, rfl, hf, fun z => ?_⟩
      rw [hz, show W a 2 69 = j by omega]
    · rw [if_neg e, bq]
      have u9 : U a 2 (9 + j) = W a 2 (9 + j) := by rw [hz, if_neg (by omega)]
      have st : ∀ v, v = (if W a 2 (9 + j) = -1 then -1 else W a 2 67 - W a 2 (9 + j) - W a 2 (9 + j + 20)) → (∃ t : dV × Int × Int, (Sum.inl (dv_u U a 2 (9 + j) v, a, j + 1) : Sum (dV × Int × Int) dR) = Sum.inl t ∧ (∃ (U : dV) (j : Int), t = (U, a, j) ∧ 0 ≤ j ∧ j ≤ W a 2 69 ∧ (∀ b m z, ¬ (b = a ∧ m = 2) → U b m z = W b m z) ∧ ∀ z, U a 2 z = if 9 ≤ z ∧ z < 9 + j then (if W a 2 z = -1 then -1 else W a 2 67 - W a 2 z - W a 2 (z + 20)) else W a 2 z) ∧ (W a 2 69 - t.2.2).toNat < (W a 2 69 - j).toNat) := by
        intro v hv
        refine ⟨_, rfl, ⟨_, j + 1, rfl, by omega, by omega, fun b m z h => ?_, fun z => ?_⟩, by dsimp only; omega⟩
        · by_cases q : b = a
          · rw [u_j (fun w => h ⟨q, w⟩)]; exact hf b m z h
          · rw [u_b q]; exact hf b m z h
        · rw [u_if]
          by_cases q : z = 9 + j
          · rw [if_pos q, if_pos (by omega), q]; exact hv
          · rw [if_neg q, hz]
            by_cases q1 : 9 ≤ z ∧ z < 9 + j
            · rw [if_pos q1, if_pos (show 9 ≤ z ∧ z < 9 + (j + 1) by omega)]
            · rw [if_neg q1, if_neg (show ¬ (9 ≤ z ∧ z < 9 + (j + 1)) by omega)]
      by_cases e3 : W a 2 (9 + j) = -1
      · have lW : f_X12_isLaid U a j = (0, ()) := by rw [q_mLaid, if_pos (by rw [u9]; exact e3)]
        rw [dv_bn2 lW, if_pos rfl, bq, bq]
        exact Or.inl (st (-1) (by rw [if_pos e3]))
      · have lW : f_X12_isLaid U a j = (1, ()) := by rw [q_mLaid, if_neg (by rw [u9]; exact e3)]
        rw [dv_bn2 lW, if_neg (by decide), bq, bq, bq, bq, bq, bq, bq, bq, bq, u9]
        refine Or.inl (st _ ?_)
        rw [if_neg e3, hz 67, if_neg (by omega), hz (29 + j), if_neg (by omega), show 9 + j + 20 = 29 + j by omega]
  obtain ⟨W', l1, l2, l3⟩ := L
  exact ⟨W', fun v hv => by rw [l1, hv], l2, l3⟩
theorem D_mirror (h : RR A a V W) : ∃ V' W' t, f_X11_doMirror V (A 0) = (V', t) ∧ f_X12_mirrorsKept W a = (W', t) ∧ RR A a V' W' ∧ d_ans t ∧ DF A a V W V' W' := by
  have hA := h.1
  obtain ⟨g0, g1, g10, -⟩ := RR_G h
  obtain ⟨V1, W1, r1, r2, r3, r4, R⟩ := RR_note (k := 2) h (by decide)
  obtain ⟨kk, e7, e8, e9, e10, e50, e51, e52, ec⟩ := RR_n R
  have n9 := kk.1.1
  obtain ⟨V2, c1, c2, c3⟩ := c_turn (V := V1) (fl := A 4) kk
  obtain ⟨W2, m1, m2, m3⟩ := m_turn (W := W1) (a := a) (by omega)
  have fj : ∀ (j : Nat) (z : Int), j ≠ 3 → V2 (A 4) j z = V1 (A 4) j z := fun j z hj => c2 _ j z (fun q => hj q.2)
  have f3 : ∀ d, 0 ≤ d → d < V1 (A 4) 7 0 → V2 (A 4) 3 d = if V1 (A 4) 3 d = -1 then -1 else V1 (A 4) 8 0 - V1 (A 4) 3 d - V1 (A 4) 0 d := fun d d0 d1 => by
    rw [c3]
    by_cases q : V1 (A 4) 3 d = -1
    · rw [if_neg (fun w => w.2 q), if_pos q, q]
    · rw [if_pos ⟨⟨d0, d1⟩, q⟩, if_neg q]
  have kg2 : kgf (V2 (A 4)) := kg_mir kk fj f3
  have wn : ∀ z, ¬ (9 ≤ z ∧ z < 9 + W1 a 2 69) → W2 a 2 z = W1 a 2 z := fun z hz => by rw [m3, if_neg hz]
  have R2 : RR A a V2 W2 := by
    refine RR_fl R (fun b m z hb => c2 b m z (fun q => hb ⟨q.1, by omega⟩)) (fun z _ => fj 5 z (by decide)) m2 (fun z hz => wn z (by omega)) ?_ ?_ (fun d d0 d9 => ⟨?_, ?_, ?_⟩) kg2
    · rw [fj 10 0 (by decide), wn 27 (by omega), e10]
    · rw [fj 5 0 (by decide), wn 28 (by omega), e50]
    · rw [fj 2 d (by decide), wn d (by omega)]; exact (ec d d0 d9).2.2.1
    · obtain ⟨q0, -, -, q3, -⟩ := ec d d0 d9
      rw [m3]
      by_cases q : d < V1 (A 4) 7 0
      · rw [f3 d d0 q, if_pos (show 9 ≤ 9 + d ∧ 9 + d < 9 + W1 a 2 69 by omega), ← q3, ← e8, show 9 + d + 20 = 29 + d by omega, ← q0]
      · rw [c3, if_neg (fun w => q w.1.2), if_neg (by omega), q3]
    · rw [fj 4 d (by decide), wn (18 + d) (by omega)]; exact (ec d d0 d9).2.2.2.2
  -- how many are laid
  have hcnt : f_X12_laidMany W2 a = (qs (fun i => if V1 (A 4) 3 (i : Int) ≠ -1 then 1 else 0) (V1 (A 4) 7 0).toNat, ()) := by
    have q := ef_laid (φ := V2 (A 4)) R2.2.2.1.1.1 kg2.1
    rw [q_laidMany2, ← q, fj 7 0 (by decide)]
    congr 1
    refine qs_c fun i hi => ?_
    rw [f3 (i : Int) (by omega) (by omega)]
    by_cases q1 : V1 (A 4) 3 (i : Int) = -1
    · rw [if_pos q1, if_neg (fun w => w rfl), if_neg (fun w => w q1)]
    · have := kk.2.2.2.1 (i : Int) (by omega) (by omega) q1
      have hp := (kk.1.2.2.2 (i : Int) (by omega) (by omega)).2.resolve_left q1
      rw [if_neg q1, if_pos (by omega), if_pos q1]
  have hb := qs_b (f := fun i : Nat => if V1 (A 4) 3 (i : Int) ≠ -1 then (1 : Int) else 0) (n := (V1 (A 4) 7 0).toNat) (k := 1) (fun i _ => by split <;> omega)
  refine ⟨V2, W2, _, ?_, ?_, R2, Or.inl hb.1, DF_t (DF_n hA r3 r4) (DF_t (DF_V (fun b m z p _ _ => c2 b m z (fun q => p ⟨q.1, by omega⟩)) (fun z _ => fj 5 z (by decide))) (DF_W (fun b m z p => m2 b m z (fun q => p ⟨q.1, Or.inl q.2⟩)) (fun z hz => wn z (by omega))))⟩
  · have q0 : V1 (A 0) 0 0 = A 1 := by rw [r3 _ _ _ (fun q => inj_n hA (by decide) (by decide) (by decide) q.1), g0]
    have q1 : V1 (A 1) 0 0 = A 4 := by rw [r3 _ _ _ (fun q => inj_n hA (by decide) (by decide) (by decide) q.1), g1]
    unfold f_X11_doMirror
    rw [bq, g10, bq, g0, bq, g1, dv_bn2 r1, bq, q0, bq, q1, dv_bn2 c1]
  · unfold f_X12_mirrorsKept
    rw [dv_bn2 r2]
    exact m1 _ hcnt
theorem L_mirror (h : RR A a V W) : ∃ V' W' u, f_X11_mirror V (A 0) = (V', u) ∧ f_X12_mirror W a = (W', u) ∧ RR A a V' W' := by
  obtain ⟨V1, W1, t, e1, e2, R, ht, -⟩ := D_mirror h
  obtain ⟨V2, W2, r1, r2, r3⟩ := RR_goodOr R ht
  exact ⟨V2, W2, t, by unfold f_X11_mirror; rw [dv_bn2 e1, dv_bn2 r1], by unfold f_X12_mirror; rw [dv_bn2 e2, dv_bn2 r2], r3⟩
end QSX
section QSY
variable {V V' V0 V1 V2 U W W' W0 W1 W2 : dV} {a b c z t k s p x y n u o : Int} {A : Nat → Int} {K K' : Int → Int} {φ ψ : Nat → Int → Int} {j m i : Nat} {fl pa : Int}
theorem c_back (hf : fl ≠ pa) (hn : 0 < V pa 4 0) : ∃ V' : dV, f_X4_takeBack V pa fl = (V', V pa 0 (30 * (V pa 4 0 - 1))) ∧ (∀ b m z, ¬ (b = pa ∧ m = 4) → ¬ (b = fl ∧ (m = 2 ∨ m = 3 ∨ m = 4 ∨ m = 5 ∨ m = 10)) → V' b m z = V b m z) ∧ V' pa 4 0 = V pa 4 0 - 1 ∧ V' fl 10 0 = V pa 0 (30 * (V pa 4 0 - 1) + 1) ∧ V' fl 5 0 = V pa 0 (30 * (V pa 4 0 - 1) + 2) ∧ (∀ z, z ≠ 0 → V' fl 5 z = V fl 5 z) ∧ ∀ c, 0 ≤ c → c < 9 → V' fl 3 c = V pa 0 (30 * (V pa 4 0 - 1) + (3 + c)) ∧ V' fl 4 c = V pa 0 (30 * (V pa 4 0 - 1) + (12 + c)) ∧ V' fl 2 c = V pa 0 (30 * (V pa 4 0 - 1) + (21 + c)) := by
  obtain ⟨B, hB⟩ : ∃ B, B = (V pa 4 0 - 1) * 30 := ⟨_, rfl⟩
  have hB' : 30 * (V pa 4 0 - 1) = B := by omega
  rw [hB']
  have pf : ∀ (X : dV) (j' : Nat) (i v : Int) (m' : Nat) (z : Int), dv_u X fl j' i v pa m' z = X pa m' z := fun X j' i v m' z => u_b (Ne.symm hf)
  have pc : ∀ (X : dV) (ja jb : Nat) (sp dp n : Int) (m' : Nat) (z : Int), dv_c X pa ja sp fl jb dp n pa m' z = X pa m' z := fun X ja jb sp dp n m' z => cp_b (Ne.symm hf)
  have e4 : dv_u V pa 4 0 (V pa 4 0 - 1) pa 4 0 = V pa 4 0 - 1 := u_e
  have e0 : ∀ z, dv_u V pa 4 0 (V pa 4 0 - 1) pa 0 z = V pa 0 z := fun z => u_j (by decide)
  have eb : ∀ b m z, ¬ (b = pa ∧ m = 4) → dv_u V pa 4 0 (V pa 4 0 - 1) b m z = V b m z := fun b m z h => by
    by_cases q : b = pa
    · exact u_j (fun w => h ⟨q, w⟩)
    · exact u_b q
  have eV : f_X4_takeBack V pa fl = (dv_c (dv_c (dv_c (dv_u (dv_u (dv_u V pa 4 0 (V pa 4 0 - 1)) fl 10 0 (V pa 0 (B + 1))) fl 5 0 (V pa 0 (B + 2))) pa 0 (B + 3) fl 3 0 9) pa 0 (B + 3 + 9) fl 4 0 9) pa 0 (B + 3 + 18) fl 2 0 9, V pa 0 B) := by
    unfold f_X4_takeBack
    rw [bq, if_pos hn]
    simp only [bq, e4, pf, pc, e0, ← hB]
  refine ⟨_, eV, fun b m z h1 h2 => ?_, ?_, ?_, ?_, fun z hz => ?_, fun c c0 c9 => ⟨?_, ?_, ?_⟩⟩
  · by_cases q : b = fl
    · have q2 : m ≠ 2 := fun w => h2 ⟨q, by omega⟩
      have q3 : m ≠ 3 := fun w => h2 ⟨q, by omega⟩
      have q4 : m ≠ 4 := fun w => h2 ⟨q, by omega⟩
      have q5 : m ≠ 5 := fun w => h2 ⟨q, by omega⟩
      have q10 : m ≠ 10 := fun w => h2 ⟨q, by omega⟩
      rw [cp_j q2, cp_j q4, cp_j q3, u_j q5, u_j q10]; exact eb b m z h1
    · rw [cp_b q, cp_b q, cp_b q, u_b q, u_b q]; exact eb b m z h1
  · rw [pc, pc, pc, pf, pf, u_e]
  · rw [cp_j (by decide), cp_j (by decide), cp_j (by decide), u_j (by decide), u_e]
  · rw [cp_j (by decide), cp_j (by decide), cp_j (by decide), u_e]
  · rw [cp_j (by decide), cp_j (by decide), cp_j (by decide), u_i hz, u_j (by decide)]; exact eb fl 5 z (fun q => hf q.1)
  · rw [cp_j (by decide), cp_j (by decide), cp_in (by omega), pf, pf, e0]; congr 1; omega
  · rw [cp_j (by decide), cp_in (by omega), pc, pf, pf, e0]; congr 1; omega
  · rw [cp_in (by omega), pc, pc, pf, pf, e0]; congr 1; omega
theorem m_undo (hn : W a 33 0 ≠ 0) : ∃ W' : dV, (∀ Z, f_X12_good W' a (W a 31 (30 * (W a 33 0 - 1) + 29)) = Z → f_X12_undo W a = Z) ∧ (∀ b m z, ¬ (b = a ∧ (m = 2 ∨ m = 33)) → W' b m z = W b m z) ∧ W' a 33 0 = W a 33 0 - 1 ∧ ∀ z, W' a 2 z = if 0 ≤ z ∧ z < 29 then W a 31 (30 * (W a 33 0 - 1) + z) else W a 2 z := by
  have L : ∃ (W' : dV), dv_lp f_X12_undo_34b (dv_u W a 33 0 (W a 33 0 - 1), 30 * (W a 33 0 - 1), a, 0) = f_X12_good W' a (W a 31 (30 * (W a 33 0 - 1) + 29)) ∧ (∀ b m z, ¬ (b = a ∧ (m = 2 ∨ m = 33)) → W' b m z = W b m z) ∧ W' a 33 0 = W a 33 0 - 1 ∧ ∀ z, W' a 2 z = if 0 ≤ z ∧ z < 29 then W a 31 (30 * (W a 33 0 - 1) + z) else W a 2 z := by
    refine dv_inv (P := fun q => ∃ (U : dV) (j : Int), q = (U, 30 * (W a 33 0 - 1), a, j) ∧ 0 ≤ j ∧ j ≤ 29 ∧ (∀ b m z, ¬ (b = a ∧ (m = 2 ∨ m = 33)) → U b m z = W b m z) ∧ U a 33 0 = W a 33 0 - 1 ∧ ∀ z, U a 2 z = if 0 ≤ z ∧ z < j then W a 31 (30 * (W a 33 0 - 1) + z) else W a 2 z) (Q := fun q => ∃ W' : dV, q = f_X12_good W' a (W a 31 (30 * (W a 33 0 - 1) + 29)) ∧ (∀ b m z, ¬ (b = a ∧ (m = 2 ∨ m = 33)) → W' b m z = W b m z) ∧ W' a 33 0 = W a 33 0 - 1 ∧ ∀ z, W' a 2 z = if 0 ≤ z ∧ z < 29 then W a 31 (30 * (W a 33 0 - 1) + z) else W a 2 z) (m := fun q => (29 - q.2.2.2).toNat) ?_ _ ⟨_, 0, rfl, by omega, by omega, fun b m z h => ?_, u_e, fun z => by rw [if_neg (by omega), u_j (by decide)]⟩
    · rintro q ⟨U, j, rfl, j0, j1, hf, h33, hz⟩
      have u31 : ∀ z, U a 31 z = W a 31 z := fun z => hf a 31 z (fun q => absurd q.2 (by decide))
      rw [f_X12_undo_34e]
      unfold f_X12_undo_34c
      by_cases e : 29 ≤ j
      · rw [if_pos e, bq, bq, u31, bq2]
        refine Or.inr ⟨_, rfl, U, rfl, hf, h33, fun z => ?_⟩
        rw [hz, show j = 29 by omega]
      · rw [if_neg e, bq, bq, u31, bq, bq]
        refine Or.inl ⟨_, rfl, ⟨_, j + 1, rfl, by omega, by omega, fun b m z h => ?_, by rw [u_j (by decide), h33], fun z => ?_⟩, by dsimp only; omega⟩
        · by_cases q : b = a
          · rw [u_j (fun w => h ⟨q, Or.inl w⟩)]; exact hf b m z h
          · rw [u_b q]; exact hf b m z h
        · rw [u_if]
          by_cases q : z = j
          · rw [if_pos q, if_pos (by omega), q]
          · rw [if_neg q, hz]
            by_cases q1 : 0 ≤ z ∧ z < j
            · rw [if_pos q1, if_pos (by omega)]
            · rw [if_neg q1, if_neg (by omega)]
    · by_cases q : b = a
      · exact u_j (fun w => h ⟨q, Or.inr w⟩)
      · exact u_b q
  obtain ⟨W', l1, l2, l3, l4⟩ := L
  refine ⟨W', fun Z hZ => ?_, l2, l3, l4⟩
  unfold f_X12_undo
  rw [bq, if_pos hn, bq, bq, bq, bq, u_e, bq, l1, hZ]
theorem L_undo (h : RR A a V W) : ∃ V' W' u, f_X11_undo V (A 0) = (V', u) ∧ f_X12_undo W a = (W', u) ∧ RR A a V' W' := by
  have hA := h.1
  obtain ⟨g0, g1, g10, -⟩ := RR_G h
  obtain ⟨kk, e7, e8, e9, e10, e50, e51, e52, ec⟩ := RR_n h
  obtain ⟨-, -, ⟨hfl, -, -⟩, -, -, ⟨p1, p2, p3⟩, -⟩ := id h
  by_cases e : W a 33 0 = 0
  · obtain ⟨V2, W2, r1, r2, r3⟩ := RR_bad (k := -3) h (Or.inr (Or.inr (Or.inl ⟨rfl, rfl, rfl⟩)))
    refine ⟨V2, W2, -3, ?_, ?_, r3⟩
    · have hb : f_X4_takeBack V (A 15) (A 4) = (V, -3) := by
        unfold f_X4_takeBack
        rw [bq, if_neg (by omega)]
      unfold f_X11_undo
      rw [bq, g10, bq, g0, bq, g1, dv_bn2 hb, dv_bn2 r1]
    · unfold f_X12_undo
      rw [bq, if_neg (fun q => q e), dv_bn2 r2]
  · obtain ⟨V1, c1, c2, c3, c4, c5, c6, c7⟩ := c_back (V := V) (pa := A 15) (fl := A 4) (inj_n hA (by decide) (by decide) (by decide)) (by omega)
    obtain ⟨W1, m1, m2, m3, m4⟩ := m_undo (W := W) (a := a) e
    obtain ⟨⟨s1, s2, s3, s4, s5⟩, s6⟩ := p3 (W a 33 0 - 1) (by omega) (by omega)
    rw [p1] at c1 c3 c4 c5 c7
    have F : ∀ (j : Nat) (z : Int), j ≠ 2 → j ≠ 3 → j ≠ 4 → j ≠ 5 → j ≠ 10 → V1 (A 4) j z = V (A 4) j z := fun j z n2 n3 n4 n5 n10 => c2 _ j z (fun q => inj_n hA (by decide) (by decide) (by decide) q.1) (fun q => by have := q.2; omega)
    have f15 : ∀ z, V1 (A 15) 0 z = V (A 15) 0 z := fun z => c2 _ 0 z (fun q => absurd q.2 (by decide)) (fun q => inj_n hA (by decide) (by decide) (by decide) q.1)
    have wn : ∀ z, 29 ≤ z → W1 a 2 z = W a 2 z := fun z hz => by rw [m4, if_neg (by omega)]
    have kg1 : kgf (V1 (A 4)) := by
      refine kg_9 s6 (fun d d0 d9 => ?_) ⟨?_, ?_, ?_⟩ (F 7 0 (by decide) (by decide) (by decide) (by decide) (by decide)) (F 8 0 (by decide) (by decide) (by decide) (by decide) (by decide)) (F 9 0 (by decide) (by decide) (by decide) (by decide) (by decide)) ?_
      · obtain ⟨q3, q4, q2⟩ := c7 d d0 d9
        obtain ⟨t3, t4, t2⟩ := s5 d d0 d9
        exact ⟨F 0 d (by decide) (by decide) (by decide) (by decide) (by decide), F 1 d (by decide) (by decide) (by decide) (by decide) (by decide), q2.trans t2, q3.trans t3, q4.trans t4⟩
      · exact c5.trans s4
      · exact c6 1 (by decide)
      · exact c6 2 (by decide)
      · exact c4.trans s3
    have R : RR A a V1 W1 := by
      refine RR_act h (fun i m z hi hm hL => c2 _ m z (fun q => ?_) (fun q => ?_)) (fun m z hm => m2 a m z (fun q => ?_)) (fun z _ => c2 _ 1 z (fun q => inj_n hA (by decide) (by decide) (by decide) q.1) (fun q => inj_n hA (by decide) (by decide) (by decide) q.1)) (fun z hz => wn z (by omega)) ⟨ef_of ⟨?_, ?_, ?_, ?_, ?_, ?_, ?_, fun d d0 d9 => ?_⟩, kg1⟩ ⟨by rw [c3, m3], by rw [m3]; omega, fun u u0 u1 => ?_⟩
      · have := hA.1 i 15 hi (by decide) q.1
        subst this
        rw [q.2] at hL
        cases hL
      · have := hA.1 i 4 hi (by decide) q.1
        subst this
        cases hL
      · rcases q.2 with rfl | rfl <;> cases hm
      · rw [F 7 0 (by decide) (by decide) (by decide) (by decide) (by decide), wn 69 (by decide), e7]
      · rw [F 8 0 (by decide) (by decide) (by decide) (by decide) (by decide), wn 67 (by decide), e8]
      · rw [F 9 0 (by decide) (by decide) (by decide) (by decide) (by decide), wn 68 (by decide), e9]
      · rw [c4, m4, if_pos (by decide)]; exact s3
      · rw [c5, m4, if_pos (by decide)]; exact s4
      · rw [c6 1 (by decide), wn 65 (by decide), e51]
      · rw [c6 2 (by decide), wn 66 (by decide), e52]
      · obtain ⟨q3, q4, q2⟩ := c7 d d0 d9
        obtain ⟨t3, t4, t2⟩ := s5 d d0 d9
        obtain ⟨r0, r1, -⟩ := ec d d0 d9
        refine ⟨by rw [F 0 d (by decide) (by decide) (by decide) (by decide) (by decide), wn _ (by omega), r0], by rw [F 1 d (by decide) (by decide) (by decide) (by decide) (by decide), wn _ (by omega), r1], ?_, ?_, ?_⟩
        · rw [q2, m4, if_pos (by omega)]; exact t2
        · rw [q3, m4, if_pos (by omega)]; exact t3
        · rw [q4, m4, if_pos (by omega)]; exact t4
      · rw [m3] at u1
        rw [show W1 a 31 = W a 31 from funext fun z => m2 a 31 z (fun q => absurd q.2 (by decide)), show V1 (A 15) 0 = V (A 15) 0 from funext f15]
        obtain ⟨v1, v2⟩ := p3 u u0 (by omega)
        exact ⟨v1, mvf_eq (fun d => ⟨F 0 d (by decide) (by decide) (by decide) (by decide) (by decide), F 1 d (by decide) (by decide) (by decide) (by decide) (by decide), fun hd => c6 d hd⟩) (F 7 0 (by decide) (by decide) (by decide) (by decide) (by decide)) (F 8 0 (by decide) (by decide) (by decide) (by decide) (by decide)) (F 9 0 (by decide) (by decide) (by decide) (by decide) (by decide)) v2⟩
    obtain ⟨V2, W2, r1, r2, r3⟩ := RR_good (t := V (A 15) 0 (30 * (W a 33 0 - 1))) R s2.1
    refine ⟨V2, W2, _, ?_, m1 _ (by rw [← s1]; exact r2), r3⟩
    unfold f_X11_undo
    rw [bq, g10, bq, g0, bq, g1, dv_bn2 c1, dv_bn2 r1]
end QSY
section QSZ
variable {V V' V0 V1 V2 U U' W W' W0 W1 W2 : dV} {a b c z t k s p x y n u o d jd rk fl lx px py high wo κ : Int} {A : Nat → Int} {K K' ω : Int → Int} {φ ψ : Nat → Int → Int} {j m i : Nat}
/-- a carpet's numbers, for a law: the same in both -/
def jc_ok (V W : dV) (jd rk fl lx a c : Int) : Prop := V jd 0 0 = rk ∧ jd ≠ rk ∧ fl ≠ rk ∧ lx ≠ rk ∧ lw_ok V W lx a ∧ ((0 ≤ c ∧ c ≤ 8) ∧ (V fl 0 c = W a 2 (29 + c) ∧ 0 ≤ V fl 0 c ∧ V fl 0 c ≤ 12) ∧ (V fl 1 c = W a 2 (38 + c) ∧ 0 ≤ V fl 1 c ∧ V fl 1 c ≤ 9) ∧ (V fl 2 c = W a 2 c ∧ 0 ≤ V fl 2 c ∧ V fl 2 c ≤ 9) ∧ (V fl 5 0 = W a 2 28 ∧ 0 ≤ V fl 5 0 ∧ V fl 5 0 ≤ 999) ∧ (V fl 5 2 = W a 2 66 ∧ 0 ≤ V fl 5 2 ∧ V fl 5 2 ≤ 9)) ∧ ∀ k, 8 ≤ k → k < 23 → -2147483648 ≤ V rk 1 k ∧ V rk 1 k ≤ 2147483647
theorem jc_ask (h : jc_ok V W jd rk fl lx a c) (hp : -1 ≤ px ∧ px ≤ 12) (hq : -1 ≤ py ∧ py ≤ 12) (hh : 0 ≤ high ∧ high ≤ 99) (ho : 0 ≤ wo ∧ wo ≤ 99) : ∃ (V1 V' : dV) (y : Int) (W' : dV) (z : Int), f_X6_setLawWords V rk fl c px py = (V1, 0) ∧ kj_fr rk V V1 ∧ f_X2_holds V1 jd lx κ = (V', y) ∧ f_X12_tells W a (κ + 1) c px py high wo = (W', z) ∧ kj_fr rk V V' ∧ te_fr a W W' ∧ ((y = 1 ∧ ∃ v, z = clamp high v ∧ (κ ≠ 2 → V' rk 2 0 = v) ∧ (κ = 2 → v = 1)) ∨ (y = 0 ∧ z = wo)) := by
  obtain ⟨h1, h2, h3, h4, h5, ⟨hc, e0, ek, ep, t0, t2⟩, h8⟩ := h
  obtain ⟨V1, e1, F1, s0, s1, s2, s3, s4, s5, s6, s7⟩ := c_words (V := V) (c := c) (px := px) (py := py) h3
  have vx : lx ≠ -1 → ∀ m z, V1 lx m z = V lx m z := fun _ m z => F1.1 lx m z (fun q => h4 q.1)
  have hw : kw_ok V1 rk (fun k => if 0 ≤ k ∧ k < 23 then V1 rk 1 k else 0) := by
    refine ⟨fun k k0 k1 => by dsimp only; rw [if_pos ⟨k0, k1⟩], fun k => ?_⟩
    dsimp only
    by_cases e : 0 ≤ k ∧ k < 23
    · rw [if_pos e]
      by_cases e8 : 8 ≤ k
      · rw [F1.2 k e8]; exact h8 k e8 e.2
      · have hk : k = 0 ∨ k = 1 ∨ k = 2 ∨ k = 3 ∨ k = 4 ∨ k = 5 ∨ k = 6 ∨ k = 7 := by omega
        rcases hk with rfl | rfl | rfl | rfl | rfl | rfl | rfl | rfl
        · rw [s0]; omega
        · rw [s1]; omega
        · rw [s2]; omega
        · rw [s3]; omega
        · rw [s4]; omega
        · rw [s5]; omega
        · rw [s6]; omega
        · rw [s7]; omega
    · rw [if_neg e]; decide
  have hl1 : lw_ok V1 W lx a := by
    rcases h5 with h5 | ⟨k1, k2, k3⟩
    · exact Or.inl h5
    · have vv := vx k2
      refine Or.inr ⟨k1, k2, ?_⟩
      rw [show V1 lx 0 = V lx 0 from funext (vv 0), show V1 lx 1 = V lx 1 from funext (vv 1), vv, vv]
      exact k3
  have hj1 : V1 jd 0 0 = rk := by rw [F1.1 jd 0 0 (fun q => h2 q.1), h1]
  obtain ⟨V', y, W', z, f1, f2, f3, f4, f5⟩ := q_holds (κ := κ) (c := c) (px := px) (py := py) (high := high) (wo := wo) hl1 hj1 h2 h4 hw ⟨by rw [if_pos (by decide), s0], by rw [if_pos (by decide), s1, e0.1], by rw [if_pos (by decide), s2, ek.1], by rw [if_pos (by decide), s3, ep.1], by rw [if_pos (by decide), s4], by rw [if_pos (by decide), s5], by rw [if_pos (by decide), s6, t0.1], by rw [if_pos (by decide), s7, t2.1]⟩ hh ho
  exact ⟨V1, V', y, W', z, e1, F1, f1, f2, kj_t F1 (kj_q f3), f4, f5⟩
theorem jc_wear (h : jc_ok V W jd rk fl lx a c) (e3 : V fl 3 c = W a 2 (9 + c)) (e4 : V fl 4 c = W a 2 (18 + c)) (b3 : -1 ≤ V fl 3 c ∧ V fl 3 c ≤ 12) (b4 : -1 ≤ V fl 4 c ∧ V fl 4 c ≤ 12) : ∃ (V' W' : dV) (y : Int), f_X2_wearOf V jd lx fl c = (V', y) ∧ f_X12_wearsNow W a c = (W', y) ∧ kj_fr rk V V' ∧ te_fr a W W' ∧ 0 ≤ y ∧ y ≤ 9 := by
  obtain ⟨h1, h2, -⟩ := id h
  obtain ⟨V1, V', y, W', z, e1, F1, f1, f2, f3, f4, f5⟩ := jc_ask (κ := 1) (high := 9) (wo := 1) (px := V fl 3 c) (py := V fl 4 c) h b3 b4 (by decide) (by decide)
  have f2' : f_X12_tells W a 2 c (V fl 3 c) (V fl 4 c) 9 1 = (W', z) := f2
  have eW : f_X12_wearsNow W a c = (W', z) := by
    unfold f_X12_wearsNow
    rw [bq, bq, bq, bq, ← e3, ← e4, dv_bn2 f2']
  rw [eW]
  unfold f_X2_wearOf
  rw [bq, bq, bq, h1, dv_bn2 e1, dv_bn2 f1]
  rcases f5 with ⟨rfl, v, k1, k2, -⟩ | ⟨rfl, k1⟩
  · have vj : V' jd 0 0 = rk := by rw [f3.1 jd 0 0 (fun q => h2 q.1), h1]
    rw [if_neg (by decide), bq, vj, bq, k2 (by decide), bq, bq, ← clamp_99 (by decide), ← k1]
    refine ⟨V', W', z, rfl, rfl, f3, f4, ?_⟩
    rw [k1, clamp_99 (by decide)]; omega
  · rw [if_pos rfl, k1]
    exact ⟨V', W', 1, rfl, rfl, f3, f4, by decide⟩
/-- a carpet is rags by the year -/
abbrev yrG (φ : Nat → Int → Int) (ω : Int → Int) (d : Int) : Prop := φ 3 d ≠ -1 ∧ max 0 (φ 2 d - ω d) = 0
/-- a year has passed for the carpets below j -/
def yrI (V : dV) (fl rk : Int) (ω : Int → Int) (j : Int) (U : dV) : Prop := (∀ b m z, ¬ (b = fl ∧ (m = 2 ∨ m = 3 ∨ m = 4)) → ¬ (b = rk ∧ m ≤ 3) → U b m z = V b m z) ∧ (∀ z, 8 ≤ z → U rk 1 z = V rk 1 z) ∧ 0 ≤ j ∧ ∀ z, (U fl 2 z = if (0 ≤ z ∧ z < j) ∧ V fl 3 z ≠ -1 then max 0 (V fl 2 z - ω z) else V fl 2 z) ∧ (U fl 3 z = if (0 ≤ z ∧ z < j) ∧ V fl 3 z ≠ -1 ∧ max 0 (V fl 2 z - ω z) = 0 then -1 else V fl 3 z) ∧ U fl 4 z = if (0 ≤ z ∧ z < j) ∧ V fl 3 z ≠ -1 ∧ max 0 (V fl 2 z - ω z) = 0 then -1 else V fl 4 z
theorem yrI_0 : yrI V fl rk ω 0 V := ⟨fun _ _ _ _ _ => rfl, fun _ _ => rfl, Int.le_refl 0, fun z => ⟨by rw [if_neg (by omega)], by rw [if_neg (by omega)], by rw [if_neg (by omega)]⟩⟩
theorem yr_st {P Q : Prop} [Decidable P] [Decidable Q] {u v w : Int} (h : P ↔ Q) : (if P then u else v) = if Q then u else v := by
  by_cases e : P
  · rw [if_pos e, if_pos (h.mp e)]
  · rw [if_neg e, if_neg (fun q => e (h.mpr q))]
theorem yrI_n (h : yrI V fl rk ω d U) (e3 : V fl 3 d = -1) : yrI V fl rk ω (d + 1) U := by
  obtain ⟨h1, h2, h3, h4⟩ := h
  refine ⟨h1, h2, by omega, fun z => ?_⟩
  obtain ⟨q2, q3, q4⟩ := h4 z
  have k : ((0 ≤ z ∧ z < d) ∧ V fl 3 z ≠ -1) ↔ ((0 ≤ z ∧ z < d + 1) ∧ V fl 3 z ≠ -1) := by
    constructor
    · rintro ⟨w1, w2⟩; exact ⟨by omega, w2⟩
    · rintro ⟨w1, w2⟩
      refine ⟨⟨w1.1, ?_⟩, w2⟩
      by_cases w : z = d
      · rw [w] at w2; exact absurd e3 w2
      · omega
  have k' : ((0 ≤ z ∧ z < d) ∧ V fl 3 z ≠ -1 ∧ max 0 (V fl 2 z - ω z) = 0) ↔ ((0 ≤ z ∧ z < d + 1) ∧ V fl 3 z ≠ -1 ∧ max 0 (V fl 2 z - ω z) = 0) := ⟨fun w => ⟨(k.mp ⟨w.1, w.2.1⟩).1, w.2⟩, fun w => ⟨(k.mpr ⟨w.1, w.2.1⟩).1, w.2⟩⟩
  exact ⟨by rw [q2]; exact yr_st (w := 0) k, by rw [q3]; exact yr_st (w := 0) k', by rw [q4]; exact yr_st (w := 0) k'⟩
theorem yrI_l (hf : fl ≠ rk) (h : yrI V fl rk ω d U) (k2 : kj_fr rk U U') (e3 : V fl 3 d ≠ -1) (d0 : 0 ≤ d) (e0 : max 0 (V fl 2 d - ω d) ≠ 0) : yrI V fl rk ω (d + 1) (dv_u U' fl 2 d (max 0 (V fl 2 d - ω d))) := by
  obtain ⟨h1, h2, h3, h4⟩ := h
  have hu : ∀ m z, U' fl m z = U fl m z := fun m z => k2.1 fl m z (fun q => hf q.1)
  refine ⟨fun b m z n1 n2 => ?_, fun z hz => ?_, by omega, fun z => ⟨?_, ?_, ?_⟩⟩
  · by_cases q : b = fl
    · rw [u_j (fun w => n1 ⟨q, Or.inl w⟩), k2.1 b m z n2]; exact h1 b m z n1 n2
    · rw [u_b q, k2.1 b m z n2]; exact h1 b m z n1 n2
  · rw [u_b (Ne.symm hf), k2.2 z hz]; exact h2 z hz
  · rw [u_if]
    by_cases q : z = d
    · rw [if_pos q, if_pos ⟨by omega, by rw [q]; exact e3⟩, q]
    · rw [if_neg q, hu, (h4 z).1]
      refine yr_st (w := 0) ⟨fun w => ⟨by omega, w.2⟩, fun w => ⟨by omega, w.2⟩⟩
  · rw [u_j (by decide), hu, (h4 z).2.1]
    refine yr_st (w := 0) ⟨fun w => ⟨by omega, w.2⟩, fun w => ⟨⟨w.1.1, ?_⟩, w.2⟩⟩
    by_cases q : z = d
    · rw [q] at w; exact absurd w.2.2 e0
    · omega
  · rw [u_j (by decide), hu, (h4 z).2.2]
    refine yr_st (w := 0) ⟨fun w => ⟨by omega, w.2⟩, fun w => ⟨⟨w.1.1, ?_⟩, w.2⟩⟩
    by_cases q : z = d
    · rw [q] at w; exact absurd w.2.2 e0
    · omega
theorem yrI_g (hf : fl ≠ rk) (h : yrI V fl rk ω d U) (k2 : kj_fr rk U U') (e3 : V fl 3 d ≠ -1) (d0 : 0 ≤ d) (e0 : max 0 (V fl 2 d - ω d) = 0) : yrI V fl rk ω (d + 1) (dv_u (dv_u (dv_u U' fl 2 d (max 0 (V fl 2 d - ω d))) fl 3 d (-1)) fl 4 d (-1)) := by
  obtain ⟨h1, h2, h3, h4⟩ := h
  have hu : ∀ m z, U' fl m z = U fl m z := fun m z => k2.1 fl m z (fun q => hf q.1)
  refine ⟨fun b m z n1 n2 => ?_, fun z hz => ?_, by omega, fun z => ⟨?_, ?_, ?_⟩⟩
  · by_cases q : b = fl
    · rw [u_j (fun w => n1 ⟨q, Or.inr (Or.inr w)⟩), u_j (fun w => n1 ⟨q, Or.inr (Or.inl w)⟩), u_j (fun w => n1 ⟨q, Or.inl w⟩), k2.1 b m z n2]; exact h1 b m z n1 n2
    · rw [u_b q, u_b q, u_b q, k2.1 b m z n2]; exact h1 b m z n1 n2
  · rw [u_b (Ne.symm hf), u_b (Ne.symm hf), u_b (Ne.symm hf), k2.2 z hz]; exact h2 z hz
  · rw [u_j (by decide), u_j (by decide), u_if]
    by_cases q : z = d
    · rw [if_pos q, if_pos ⟨by omega, by rw [q]; exact e3⟩, q]
    · rw [if_neg q, hu, (h4 z).1]
      refine yr_st (w := 0) ⟨fun w => ⟨by omega, w.2⟩, fun w => ⟨by omega, w.2⟩⟩
  · rw [u_j (by decide), u_if]
    by_cases q : z = d
    · rw [if_pos q, if_pos ⟨by omega, by rw [q]; exact ⟨e3, e0⟩⟩]
    · rw [if_neg q, u_j (by decide), hu, (h4 z).2.1]
      refine yr_st (w := 0) ⟨fun w => ⟨by omega, w.2⟩, fun w => ⟨by omega, w.2⟩⟩
  · rw [u_if]
    by_cases q : z = d
    · rw [if_pos q, if_pos ⟨by omega, by rw [q]; exact ⟨e3, e0⟩⟩]
    · rw [if_neg q, u_j (by decide), u_j (by decide), hu, (h4 z).2.2]
      refine yr_st (w := 0) ⟨fun w => ⟨by omega, w.2⟩, fun w => ⟨by omega, w.2⟩⟩
theorem c_year0 (hk : kgf (V fl)) (hy : V fl 5 0 ≤ 998) (hfr : fl ≠ rk) (hw : ∀ (U : dV) (d : Int), 0 ≤ d → d < V fl 7 0 → V fl 3 d ≠ -1 → yrI V fl rk ω d U → ∃ U' : dV, f_X2_wearOf U jd (-1) fl d = (U', ω d) ∧ kj_fr rk U U') (hω : ∀ d, 0 ≤ ω d ∧ ω d ≤ 9) : ∃ (V' : dV), f_X1_wearAYear_0 V fl jd (-1) = (V', qs (fun i => if yrG (V fl) ω (i : Int) then 1 else 0) (V fl 7 0).toNat) ∧ yrI V fl rk ω (V fl 7 0) (dv_u V' fl 5 0 (V fl 5 0)) ∧ V' fl 5 0 = V fl 5 0 + 1 := by
  have n9 := hk.1.1
  have hyy := hk.2.2.2.2.2.2.1
  unfold f_X1_wearAYear_0
  refine dv_inv (P := fun q => ∃ (U : dV) (j : Nat), q = (U, fl, jd, qs (fun i => if yrG (V fl) ω (i : Int) then 1 else 0) j, (j : Int)) ∧ (j : Int) ≤ V fl 7 0 ∧ yrI V fl rk ω (j : Int) U) (Q := fun q => ∃ V' : dV, q = (V', qs (fun i => if yrG (V fl) ω (i : Int) then 1 else 0) (V fl 7 0).toNat) ∧ yrI V fl rk ω (V fl 7 0) (dv_u V' fl 5 0 (V fl 5 0)) ∧ V' fl 5 0 = V fl 5 0 + 1) (m := fun q => (V fl 7 0 - q.2.2.2.2).toNat) ?_ _ ⟨V, 0, rfl, by omega, yrI_0⟩
  rintro q ⟨U, j, rfl, j1, hI⟩
  obtain ⟨i1, i2, i3, i4⟩ := id hI
  have u7 : U fl 7 0 = V fl 7 0 := i1 fl 7 0 (fun q => absurd q.2 (by decide)) (fun q => hfr q.1)
  have u5 : U fl 5 0 = V fl 5 0 := i1 fl 5 0 (fun q => absurd q.2 (by decide)) (fun q => hfr q.1)
  rw [f_X1_wearAYear_0_5e]
  unfold f_X1_wearAYear_0_5c f_X1_wearAYear_0_72
  rw [bq, u7]
  by_cases e : V fl 7 0 ≤ (j : Int)
  · have ej : (V fl 7 0).toNat = j := by omega
    rw [if_pos e, bq, u5, bq, dv_add_ok (by omega) (by omega) (by omega) (by omega) (by omega) (by omega), bq]
    refine Or.inr ⟨_, rfl, _, by rw [ej], ?_, u_e⟩
    rw [dv_uu, dv_us u5, show V fl 7 0 = (j : Int) by omega]
    exact hI
  · rw [if_neg e]
    have hb := qs_b (f := fun i : Nat => if yrG (V fl) ω (i : Int) then (1 : Int) else 0) (n := j) (k := 1) (fun i _ => by split <;> omega)
    have uz := i4 (j : Int)
    have h2 : U fl 2 (j : Int) = V fl 2 (j : Int) := by rw [uz.1, if_neg (by omega)]
    have h3 : U fl 3 (j : Int) = V fl 3 (j : Int) := by rw [uz.2.1, if_neg (by omega)]
    have sq : qs (fun i => if yrG (V fl) ω (i : Int) then (1 : Int) else 0) (j + 1) = qs (fun i => if yrG (V fl) ω (i : Int) then 1 else 0) j + (if yrG (V fl) ω (j : Int) then 1 else 0) := rfl
    have cj : (j : Int) + 1 = ((j + 1 : Nat) : Int) := by omega
    by_cases e3 : V fl 3 (j : Int) = -1
    · have lV : f_X1_isLaid U fl (j : Int) = (0, ()) := by rw [q_isLaid, if_neg (fun q => q.2.2 (by rw [h3]; exact e3))]
      rw [dv_bn2 lV, if_neg (fun q => q rfl), bq]
      refine Or.inl ⟨_, rfl, ⟨U, j + 1, ?_, by omega, ?_⟩, by dsimp only; omega⟩
      · rw [sq, if_neg (fun q => q.1 e3), Int.add_zero, cj]
      · rw [← cj]; exact yrI_n hI e3
    · have lV : f_X1_isLaid U fl (j : Int) = (1, ()) := by rw [q_isLaid, if_pos ⟨by omega, by rw [u7]; omega, by rw [h3]; exact e3⟩]
      obtain ⟨U1, k1, k2⟩ := hw U (j : Int) (by omega) (by omega) e3 hI
      have hs := (hk.2.2.1 (j : Int) (by omega) (by omega)).2.2.2
      have ho := hω (j : Int)
      have v7 : dv_u U1 fl 2 (j : Int) (max 0 (V fl 2 (j : Int) - ω (j : Int))) fl 7 0 = V fl 7 0 := by rw [u_j (by decide), k2.1 fl 7 0 (fun q => hfr q.1), u7]
      rw [dv_bn2 lV, if_pos (by decide), bq, dv_bn2 k1, h2, dv_sub_ok (by omega) (by omega) (by omega) (by omega) (by omega) (by omega), bq, bq, bq, bq, u_e]
      by_cases e0 : max 0 (V fl 2 (j : Int) - ω (j : Int)) = 0
      · rw [if_neg (fun q => q e0), dv_bn2 (c_rollUp (by rw [v7]; omega)), dv_add_ok (by omega) (by omega) (by omega) (by omega) (by omega) (by omega), bq, bq]
        refine Or.inl ⟨_, rfl, ⟨dv_u (dv_u (dv_u U1 fl 2 (j : Int) (max 0 (V fl 2 (j : Int) - ω (j : Int)))) fl 3 (j : Int) (-1)) fl 4 (j : Int) (-1), j + 1, ?_, by omega, ?_⟩, by dsimp only; omega⟩
        · rw [sq, if_pos ⟨e3, e0⟩, cj]
        · rw [← cj]; exact yrI_g hfr hI k2 e3 (by omega) e0
      · rw [if_pos e0, bq]
        refine Or.inl ⟨_, rfl, ⟨dv_u U1 fl 2 (j : Int) (max 0 (V fl 2 (j : Int) - ω (j : Int))), j + 1, ?_, by omega, ?_⟩, by dsimp only; omega⟩
        · rw [sq, if_neg (fun q => e0 q.2), Int.add_zero, cj]
        · rw [← cj]; exact yrI_l hfr hI k2 e3 (by omega) e0
theorem c_year1 (hk : kgf (V fl)) (hy : V fl 5 0 ≤ 998) (hfr : fl ≠ rk) (hw : ∀ (U : dV) (d : Int), 0 ≤ d → d < V fl 7 0 → V fl 3 d ≠ -1 → yrI V fl rk ω d U → ∃ U' : dV, f_X2_wearOf U jd lx fl d = (U', ω d) ∧ kj_fr rk U U') (hω : ∀ d, 0 ≤ ω d ∧ ω d ≤ 9) : ∃ (V' : dV), f_X1_wearAYear_1 V fl jd lx = (V', qs (fun i => if yrG (V fl) ω (i : Int) then 1 else 0) (V fl 7 0).toNat) ∧ yrI V fl rk ω (V fl 7 0) (dv_u V' fl 5 0 (V fl 5 0)) ∧ V' fl 5 0 = V fl 5 0 + 1 := by
  have n9 := hk.1.1
  have hyy := hk.2.2.2.2.2.2.1
  unfold f_X1_wearAYear_1
  refine dv_inv (P := fun q => ∃ (U : dV) (j : Nat), q = (U, fl, jd, lx, qs (fun i => if yrG (V fl) ω (i : Int) then 1 else 0) j, (j : Int)) ∧ (j : Int) ≤ V fl 7 0 ∧ yrI V fl rk ω (j : Int) U) (Q := fun q => ∃ V' : dV, q = (V', qs (fun i => if yrG (V fl) ω (i : Int) then 1 else 0) (V fl 7 0).toNat) ∧ yrI V fl rk ω (V fl 7 0) (dv_u V' fl 5 0 (V fl 5 0)) ∧ V' fl 5 0 = V fl 5 0 + 1) (m := fun q => (V fl 7 0 - q.2.2.2.2.2).toNat) ?_ _ ⟨V, 0, rfl, by omega, yrI_0⟩
  rintro q ⟨U, j, rfl, j1, hI⟩
  obtain ⟨i1, i2, i3, i4⟩ := id hI
  have u7 : U fl 7 0 = V fl 7 0 := i1 fl 7 0 (fun q => absurd q.2 (by decide)) (fun q => hfr q.1)
  have u5 : U fl 5 0 = V fl 5 0 := i1 fl 5 0 (fun q => absurd q.2 (by decide)) (fun q => hfr q.1)
  rw [f_X1_wearAYear_1_5e]
  unfold f_X1_wearAYear_1_5c f_X1_wearAYear_1_72
  rw [bq, u7]
  by_cases e : V fl 7 0 ≤ (j : Int)
  · have ej : (V fl 7 0).toNat = j := by omega
    rw [if_pos e, bq, u5, bq, dv_add_ok (by omega) (by omega) (by omega) (by omega) (by omega) (by omega), bq]
    refine Or.inr ⟨_, rfl, _, by rw [ej], ?_, u_e⟩
    rw [dv_uu, dv_us u5, show V fl 7 0 = (j : Int) by omega]
    exact hI
  · rw [if_neg e]
    have hb := qs_b (f := fun i : Nat => if yrG (V fl) ω (i : Int) then (1 : Int) else 0) (n := j) (k := 1) (fun i _ => by split <;> omega)
    have uz := i4 (j : Int)
    have h2 : U fl 2 (j : Int) = V fl 2 (j : Int) := by rw [uz.1, if_neg (by omega)]
    have h3 : U fl 3 (j : Int) = V fl 3 (j : Int) := by rw [uz.2.1, if_neg (by omega)]
    have sq : qs (fun i => if yrG (V fl) ω (i : Int) then (1 : Int) else 0) (j + 1) = qs (fun i => if yrG (V fl) ω (i : Int) then 1 else 0) j + (if yrG (V fl) ω (j : Int) then 1 else 0) := rfl
    have cj : (j : Int) + 1 = ((j + 1 : Nat) : Int) := by omega
    by_cases e3 : V fl 3 (j : Int) = -1
    · have lV : f_X1_isLaid U fl (j : Int) = (0, ()) := by rw [q_isLaid, if_neg (fun q => q.2.2 (by rw [h3]; exact e3))]
      rw [dv_bn2 lV, if_neg (fun q => q rfl), bq]
      refine Or.inl ⟨_, rfl, ⟨U, j + 1, ?_, by omega, ?_⟩, by dsimp only; omega⟩
      · rw [sq, if_neg (fun q => q.1 e3), Int.add_zero, cj]
      · rw [← cj]; exact yrI_n hI e3
    · have lV : f_X1_isLaid U fl (j : Int) = (1, ()) := by rw [q_isLaid, if_pos ⟨by omega, by rw [u7]; omega, by rw [h3]; exact e3⟩]
      obtain ⟨U1, k1, k2⟩ := hw U (j : Int) (by omega) (by omega) e3 hI
      have hs := (hk.2.2.1 (j : Int) (by omega) (by omega)).2.2.2
      have ho := hω (j : Int)
      have v7 : dv_u U1 fl 2 (j : Int) (max 0 (V fl 2 (j : Int) - ω (j : Int))) fl 7 0 = V fl 7 0 := by rw [u_j (by decide), k2.1 fl 7 0 (fun q => hfr q.1), u7]
      rw [dv_bn2 lV, if_pos (by decide), bq, dv_bn2 k1, h2, dv_sub_ok (by omega) (by omega) (by omega) (by omega) (by omega) (by omega), bq, bq, bq, bq, u_e]
      by_cases e0 : max 0 (V fl 2 (j : Int) - ω (j : Int)) = 0
      · rw [if_neg (fun q => q e0), dv_bn2 (c_rollUp (by rw [v7]; omega)), dv_add_ok (by omega) (by omega) (by omega) (by omega) (by omega) (by omega), bq, bq]
        refine Or.inl ⟨_, rfl, ⟨dv_u (dv_u (dv_u U1 fl 2 (j : Int) (max 0 (V fl 2 (j : Int) - ω (j : Int)))) fl 3 (j : Int) (-1)) fl 4 (j : Int) (-1), j + 1, ?_, by omega, ?_⟩, by dsimp only; omega⟩
        · rw [sq, if_pos ⟨e3, e0⟩, cj]
        · rw [← cj]; exact yrI_g hfr hI k2 e3 (by omega) e0
      · rw [if_pos e0, bq]
        refine Or.inl ⟨_, rfl, ⟨dv_u U1 fl 2 (j : Int) (max 0 (V fl 2 (j : Int) - ω (j : Int))), j + 1, ?_, by omega, ?_⟩, by dsimp only; omega⟩
        · rw [sq, if_neg (fun q => e0 q.2), Int.add_zero, cj]
        · rw [← cj]; exact yrI_l hfr hI k2 e3 (by omega) e0
theorem c_year (hk : kgf (V fl)) (hy : V fl 5 0 ≤ 998) (hfr : fl ≠ rk) (hw : ∀ (U : dV) (d : Int), 0 ≤ d → d < V fl 7 0 → V fl 3 d ≠ -1 → yrI V fl rk ω d U → ∃ U' : dV, f_X2_wearOf U jd lx fl d = (U', ω d) ∧ kj_fr rk U U') (hω : ∀ d, 0 ≤ ω d ∧ ω d ≤ 9) : ∃ (V' : dV), f_X1_wearAYear V fl jd lx = (V', qs (fun i => if yrG (V fl) ω (i : Int) then 1 else 0) (V fl 7 0).toNat) ∧ yrI V fl rk ω (V fl 7 0) (dv_u V' fl 5 0 (V fl 5 0)) ∧ V' fl 5 0 = V fl 5 0 + 1 := by
  unfold f_X1_wearAYear
  by_cases e : lx = -1
  · subst e
    rw [if_pos rfl]
    exact c_year0 hk hy hfr hw hω
  · rw [if_neg e]
    exact c_year1 hk hy hfr hw hω
end QSZ
section QTA
variable {V V' V0 V1 V2 U U' W W' W0 W1 W2 : dV} {a b c z t k s p x y n u o d jd rk fl lx : Int} {A : Nat → Int} {K K' ω : Int → Int} {φ ψ : Nat → Int → Int} {j m i : Nat}
def ym_fr (a : Int) (W W' : dV) : Prop := ∀ b m z, ¬ (b = a ∧ ((22 ≤ m ∧ m ≤ 26) ∨ m = 30)) → W' b m z = W b m z
theorem ym_t (h : ym_fr a W W') (h1 : ym_fr a W' W1) : ym_fr a W W1 := fun b m z k => (h1 b m z k).trans (h b m z k)
theorem ym_e (h : te_fr a W W') : ym_fr a W W' := fun b m z k => h b m z (fun q => k ⟨q.1, Or.inl q.2⟩)
theorem ym_30 : ym_fr a W (dv_u W a 30 z y) := fun b m z' k => by
  unfold dv_u; rw [if_neg (fun e => k ⟨e.1, Or.inr e.2.1⟩)]
/-- what all wear, asked ahead -/
theorem m_year1 (hn : 0 ≤ W a 2 69) (hw : ∀ (U : dV) (d : Int), 0 ≤ d → d < W a 2 69 → W a 2 (9 + d) ≠ -1 → ym_fr a W U → ∃ U' : dV, f_X12_wearsNow U a d = (U', ω d) ∧ te_fr a U U') (he : ∀ U : dV, ym_fr a W U → (∀ d, 0 ≤ d → d < W a 2 69 → W a 2 (9 + d) ≠ -1 → U a 30 d = ω d) → ∃ r : dR, dv_lp f_X12_yearPasses_43b (U, a, 0, 0) = Sum.inr r) : ∃ W1 : dV, dv_lp f_X12_yearPasses_43b (W1, a, 0, 0) = Sum.inr (dv_lp f_X12_yearPasses_4b (W, a, 0)) ∧ ym_fr a W W1 ∧ ∀ d, 0 ≤ d → d < W a 2 69 → W a 2 (9 + d) ≠ -1 → W1 a 30 d = ω d := by
  refine dv_inv (P := fun q => ∃ (U : dV) (j : Int), q = (U, a, j) ∧ 0 ≤ j ∧ j ≤ W a 2 69 ∧ ym_fr a W U ∧ ∀ d, 0 ≤ d → d < j → W a 2 (9 + d) ≠ -1 → U a 30 d = ω d) (Q := fun q => ∃ W1 : dV, dv_lp f_X12_yearPasses_43b (W1, a, 0, 0) = Sum.inr q ∧ ym_fr a W W1 ∧ ∀ d, 0 ≤ d → d < W a 2 69 → W a 2 (9 + d) ≠ -1 → W1 a 30 d = ω d) (m := fun q => (W a 2 69 - q.2.2).toNat) ?_ _ ⟨W, 0, rfl, by omega, hn, fun _ _ _ _ => rfl, fun d d0 d1 => absurd d1 (by omega)⟩
  rintro q ⟨U, j, rfl, j0, j1, hf, hz⟩
  have u2 : ∀ z, U a 2 z = W a 2 z := fun z => hf a 2 z (fun q => absurd q.2 (by omega))
  rw [f_X12_yearPasses_4e]
  unfold f_X12_yearPasses_4c
  rw [dv_bn2 q_many, u2]
  by_cases e : W a 2 69 ≤ j
  · rw [if_pos e]
    have hz' : ∀ d, 0 ≤ d → d < W a 2 69 → W a 2 (9 + d) ≠ -1 → U a 30 d = ω d := fun d d0 d1 => hz d d0 (by omega)
    obtain ⟨r, hr⟩ := he U hf hz'
    exact Or.inr ⟨r, hr, U, hr, hf, hz'⟩
  · rw [if_neg e]
    by_cases e3 : W a 2 (9 + j) = -1
    · have lW : f_X12_isLaid U a j = (0, ()) := by rw [q_mLaid, if_pos (by rw [u2]; exact e3)]
      rw [dv_bn2 lW, if_pos rfl, bq, bq]
      refine Or.inl ⟨_, rfl, ⟨_, j + 1, rfl, by omega, by omega, ym_t hf ym_30, fun d d0 d1 hd => ?_⟩, by dsimp only; omega⟩
      by_cases q : d = j
      · rw [q] at hd; exact absurd e3 hd
      · rw [u_i q]; exact hz d d0 (by omega) hd
    · have lW : f_X12_isLaid U a j = (1, ()) := by rw [q_mLaid, if_neg (by rw [u2]; exact e3)]
      obtain ⟨U', k1, k2⟩ := hw U j j0 (by omega) e3 hf
      rw [dv_bn2 lW, if_neg (by decide), dv_bn2 k1, bq, bq]
      refine Or.inl ⟨_, rfl, ⟨_, j + 1, rfl, by omega, by omega, ym_t (ym_t hf (ym_e k2)) ym_30, fun d d0 d1 hd => ?_⟩, by dsimp only; omega⟩
      by_cases q : d = j
      · rw [q, u_e]
      · rw [u_i q, k2 a 30 d (fun q => absurd q.2 (by omega))]; exact hz d d0 (by omega) hd
/-- a carpet is rags by the year, as the reference has it -/
abbrev ymG (K ω : Int → Int) (d : Int) : Prop := K (9 + d) ≠ -1 ∧ max 0 (K d - ω d) = 0
/-- a year has passed for the carpets below j -/
def ymI (K ω : Int → Int) (j : Int) (K' : Int → Int) : Prop := (∀ z, 27 ≤ z → K' z = K z) ∧ ∀ d, 0 ≤ d → d < 9 → (K' d = if d < j ∧ K (9 + d) ≠ -1 then max 0 (K d - ω d) else K d) ∧ (K' (9 + d) = if d < j ∧ K (9 + d) ≠ -1 ∧ max 0 (K d - ω d) = 0 then -1 else K (9 + d)) ∧ K' (18 + d) = if d < j ∧ K (9 + d) ≠ -1 ∧ max 0 (K d - ω d) = 0 then -1 else K (18 + d)
theorem m_year2 (hn : 0 ≤ W a 2 69 ∧ W a 2 69 ≤ 9) (hy : 0 ≤ W a 2 28 ∧ W a 2 28 ≤ 998) (hw : ∀ d, 0 ≤ d → d < W a 2 69 → W a 2 (9 + d) ≠ -1 → W a 30 d = ω d ∧ (0 ≤ ω d ∧ ω d ≤ 9) ∧ 0 ≤ W a 2 d ∧ W a 2 d ≤ 9) : ∃ W' : dV, dv_lp f_X12_yearPasses_43b (W, a, 0, 0) = Sum.inr (W', qs (fun i => if ymG (W a 2) ω (i : Int) then 1 else 0) (W a 2 69).toNat) ∧ (∀ b m z, ¬ (b = a ∧ m = 2) → W' b m z = W b m z) ∧ W' a 2 28 = W a 2 28 + 1 ∧ ymI (W a 2) ω (W a 2 69) (fun z => if z = 28 then W a 2 28 else W' a 2 z) := by
  refine dv_inv (P := fun q => ∃ (U : dV) (j : Nat), q = (U, a, qs (fun i => if ymG (W a 2) ω (i : Int) then 1 else 0) j, (j : Int)) ∧ (j : Int) ≤ W a 2 69 ∧ (∀ b m z, ¬ (b = a ∧ m = 2) → U b m z = W b m z) ∧ ymI (W a 2) ω (j : Int) (U a 2)) (Q := fun q => ∃ W' : dV, q = Sum.inr (W', qs (fun i => if ymG (W a 2) ω (i : Int) then 1 else 0) (W a 2 69).toNat) ∧ (∀ b m z, ¬ (b = a ∧ m = 2) → W' b m z = W b m z) ∧ W' a 2 28 = W a 2 28 + 1 ∧ ymI (W a 2) ω (W a 2 69) (fun z => if z = 28 then W a 2 28 else W' a 2 z)) (m := fun q => (W a 2 69 - q.2.2.2).toNat) ?_ _ ⟨W, 0, rfl, by omega, fun _ _ _ _ => rfl, fun _ _ => rfl, fun d d0 d9 => ⟨by rw [if_neg (by omega)], by rw [if_neg (by omega)], by rw [if_neg (by omega)]⟩⟩
  rintro q ⟨U, j, rfl, j1, hf, hI1, hI2⟩
  have u69 := hI1 69 (by decide)
  have u28 := hI1 28 (by decide)
  rw [f_X12_yearPasses_43e]
  unfold f_X12_yearPasses_43c
  rw [dv_bn2 q_many, u69]
  by_cases e : W a 2 69 ≤ (j : Int)
  · have ej : (W a 2 69).toNat = j := by omega
    rw [if_pos e, bq, u28, bq, dv_add_ok (by omega) (by omega) (by omega) (by omega) (by omega) (by omega), bq]
    refine Or.inr ⟨_, rfl, _, by rw [ej], fun b m z h => ?_, u_e, fun z hz => ?_, fun d d0 d9 => ?_⟩
    · by_cases q : b = a
      · rw [u_j (fun w => h ⟨q, w⟩)]; exact hf b m z h
      · rw [u_b q]; exact hf b m z h
    · dsimp only
      by_cases q : z = 28
      · rw [if_pos q, q]
      · rw [if_neg q, u_i q]; exact hI1 z hz
    · dsimp only
      rw [if_neg (show ¬ d = 28 by omega), u_i (show d ≠ 28 by omega), if_neg (show ¬ 9 + d = 28 by omega), u_i (show 9 + d ≠ 28 by omega), if_neg (show ¬ 18 + d = 28 by omega), u_i (show 18 + d ≠ 28 by omega), show W a 2 69 = (j : Int) by omega]
      exact hI2 d d0 d9
  · rw [if_neg e]
    obtain ⟨z2, z3, z4⟩ := hI2 (j : Int) (by omega) (by omega)
    rw [if_neg (by omega)] at z2 z3 z4
    have sq : qs (fun i => if ymG (W a 2) ω (i : Int) then (1 : Int) else 0) (j + 1) = qs (fun i => if ymG (W a 2) ω (i : Int) then 1 else 0) j + (if ymG (W a 2) ω (j : Int) then 1 else 0) := rfl
    have cj : (j : Int) + 1 = ((j + 1 : Nat) : Int) := by omega
    have u30 : ∀ z, U a 30 z = W a 30 z := fun z => hf a 30 z (fun q => absurd q.2 (by decide))
    by_cases e3 : W a 2 (9 + (j : Int)) = -1
    · have lW : f_X12_isLaid U a (j : Int) = (0, ()) := by rw [q_mLaid, if_pos (by rw [z3]; exact e3)]
      rw [dv_bn2 lW, if_neg (fun q => q rfl), bq]
      refine Or.inl ⟨_, rfl, ⟨U, j + 1, ?_, by omega, hf, hI1, fun d d0 d9 => ?_⟩, by dsimp only; omega⟩
      · rw [sq, if_neg (fun q => q.1 e3), Int.add_zero, cj]
      · obtain ⟨q2, q3, q4⟩ := hI2 d d0 d9
        have k : (d < (j : Int) ∧ W a 2 (9 + d) ≠ -1) ↔ (d < ((j + 1 : Nat) : Int) ∧ W a 2 (9 + d) ≠ -1) := by
          constructor
          · rintro ⟨w1, w2⟩; exact ⟨by omega, w2⟩
          · rintro ⟨w1, w2⟩
            refine ⟨?_, w2⟩
            by_cases w : d = (j : Int)
            · rw [w] at w2; exact absurd e3 w2
            · omega
        have k' : (d < (j : Int) ∧ W a 2 (9 + d) ≠ -1 ∧ max 0 (W a 2 d - ω d) = 0) ↔ (d < ((j + 1 : Nat) : Int) ∧ W a 2 (9 + d) ≠ -1 ∧ max 0 (W a 2 d - ω d) = 0) := ⟨fun w => ⟨(k.mp ⟨w.1, w.2.1⟩).1, w.2⟩, fun w => ⟨(k.mpr ⟨w.1, w.2.1⟩).1, w.2⟩⟩
        exact ⟨by rw [q2]; exact yr_st (w := 0) k, by rw [q3]; exact yr_st (w := 0) k', by rw [q4]; exact yr_st (w := 0) k'⟩
    · have lW : f_X12_isLaid U a (j : Int) = (1, ()) := by rw [q_mLaid, if_neg (by rw [z3]; exact e3)]
      obtain ⟨h30, ho, hp⟩ := hw (j : Int) (by omega) (by omega) e3
      rw [dv_bn2 lW, if_pos (by decide), bq, bq, bq, bq, Int.zero_add, z2, u30, h30, dv_sub_ok (by omega) (by omega) (by omega) (by omega) (by omega) (by omega), bq, dv_bn2 q_greater, bq]
      have hwh : ∀ v : Int, f_X12_isWhole (dv_u U a 2 (j : Int) v) a (j : Int) = (if 0 < v then 1 else 0, ()) := fun v => by rw [q_mWhole, u_e]
      by_cases e0 : max 0 (W a 2 (j : Int) - ω (j : Int)) = 0
      · have hw0 : f_X12_isWhole (dv_u U a 2 (j : Int) (max 0 (W a 2 (j : Int) - ω (j : Int)))) a (j : Int) = (0, ()) := by rw [hwh, if_neg (by omega)]
        rw [dv_bn2 hw0, if_pos rfl, dv_bn2 m_rolls, bq, bq]
        have g2 : ∀ z, dv_u (dv_u (dv_u U a 2 (j : Int) (max 0 (W a 2 (j : Int) - ω (j : Int)))) a 2 (9 + (j : Int)) (-1)) a 2 (18 + (j : Int)) (-1) a 2 z = if z = 18 + (j : Int) then -1 else if z = 9 + (j : Int) then -1 else if z = (j : Int) then max 0 (W a 2 (j : Int) - ω (j : Int)) else U a 2 z := fun z => by rw [u_if, u_if, u_if]
        refine Or.inl ⟨_, rfl, ⟨dv_u (dv_u (dv_u U a 2 (j : Int) (max 0 (W a 2 (j : Int) - ω (j : Int)))) a 2 (9 + (j : Int)) (-1)) a 2 (18 + (j : Int)) (-1), j + 1, ?_, by omega, fun b m z h => ?_, fun z hz => ?_, fun d d0 d9 => ⟨?_, ?_, ?_⟩⟩, by dsimp only; omega⟩
        · rw [sq, if_pos ⟨e3, e0⟩, cj]
        · by_cases q : b = a
          · have q2 : m ≠ 2 := fun w => h ⟨q, w⟩
            rw [u_j q2, u_j q2, u_j q2]; exact hf b m z h
          · rw [u_b q, u_b q, u_b q]; exact hf b m z h
        · rw [g2, if_neg (by omega), if_neg (by omega), if_neg (by omega)]; exact hI1 z hz
        · rw [g2, if_neg (show ¬ d = 18 + (j : Int) by omega), if_neg (show ¬ d = 9 + (j : Int) by omega)]
          by_cases q : d = (j : Int)
          · rw [if_pos q, if_pos ⟨by omega, by rw [q]; exact e3⟩, q]
          · rw [if_neg q, (hI2 d d0 d9).1]
            exact yr_st (w := 0) ⟨fun w => ⟨by omega, w.2⟩, fun w => ⟨by omega, w.2⟩⟩
        · rw [g2, if_neg (show ¬ 9 + d = 18 + (j : Int) by omega)]
          by_cases q : d = (j : Int)
          · rw [if_pos (by omega), if_pos ⟨by omega, by rw [q]; exact ⟨e3, e0⟩⟩]
          · rw [if_neg (show ¬ 9 + d = 9 + (j : Int) by omega), if_neg (show ¬ 9 + d = (j : Int) by omega), (hI2 d d0 d9).2.1]
            exact yr_st (w := 0) ⟨fun w => ⟨by omega, w.2⟩, fun w => ⟨by omega, w.2⟩⟩
        · rw [g2]
          by_cases q : d = (j : Int)
          · rw [if_pos (by omega), if_pos ⟨by omega, by rw [q]; exact ⟨e3, e0⟩⟩]
          · rw [if_neg (show ¬ 18 + d = 18 + (j : Int) by omega), if_neg (show ¬ 18 + d = 9 + (j : Int) by omega), if_neg (show ¬ 18 + d = (j : Int) by omega), (hI2 d d0 d9).2.2]
            exact yr_st (w := 0) ⟨fun w => ⟨by omega, w.2⟩, fun w => ⟨by omega, w.2⟩⟩
      · have hw1 : f_X12_isWhole (dv_u U a 2 (j : Int) (max 0 (W a 2 (j : Int) - ω (j : Int)))) a (j : Int) = (1, ()) := by rw [hwh, if_pos (by omega)]
        rw [dv_bn2 hw1, if_neg (by decide), bq]
        have g2 : ∀ z, dv_u U a 2 (j : Int) (max 0 (W a 2 (j : Int) - ω (j : Int))) a 2 z = if z = (j : Int) then max 0 (W a 2 (j : Int) - ω (j : Int)) else U a 2 z := fun z => u_if
        have k' : ∀ d : Int, (d < (j : Int) ∧ W a 2 (9 + d) ≠ -1 ∧ max 0 (W a 2 d - ω d) = 0) ↔ (d < ((j + 1 : Nat) : Int) ∧ W a 2 (9 + d) ≠ -1 ∧ max 0 (W a 2 d - ω d) = 0) := fun d => ⟨fun w => ⟨by omega, w.2⟩, fun w => ⟨by
          by_cases q : d = (j : Int)
          · rw [q] at w; exact absurd w.2.2 e0
          · omega, w.2⟩⟩
        refine Or.inl ⟨_, rfl, ⟨dv_u U a 2 (j : Int) (max 0 (W a 2 (j : Int) - ω (j : Int))), j + 1, ?_, by omega, fun b m z h => ?_, fun z hz => ?_, fun d d0 d9 => ⟨?_, ?_, ?_⟩⟩, by dsimp only; omega⟩
        · rw [sq, if_neg (fun q => e0 q.2), Int.add_zero, cj]
        · by_cases q : b = a
          · rw [u_j (fun w => h ⟨q, w⟩)]; exact hf b m z h
          · rw [u_b q]; exact hf b m z h
        · rw [g2, if_neg (by omega)]; exact hI1 z hz
        · rw [g2]
          by_cases q : d = (j : Int)
          · rw [if_pos q, if_pos ⟨by omega, by rw [q]; exact e3⟩, q]
          · rw [if_neg q, (hI2 d d0 d9).1]
            exact yr_st (w := 0) ⟨fun w => ⟨by omega, w.2⟩, fun w => ⟨by omega, w.2⟩⟩
        · rw [g2, if_neg (show ¬ 9 + d = (j : Int) by omega), (hI2 d d0 d9).2.1]
          exact yr_st (w := 0) (k' d)
        · rw [g2, if_neg (show ¬ 18 + d = (j : Int) by omega), (hI2 d d0 d9).2.2]
          exact yr_st (w := 0) (k' d)
end QTA
section QTB
variable {V V' V0 V1 V2 U U' W W' W0 W1 W2 : dV} {a b c z t k s p x y n u o d jd rk fl lx : Int} {A : Nat → Int} {K K' ω : Int → Int} {φ ψ : Nat → Int → Int} {j m i : Nat}
theorem JX_lx (h : JX A a i V W) (hl : f_X8_forcedLaw V (A 1) = (lx, ())) : (∀ j : Nat, j < 20 → lx ≠ A j) ∧ jd_ok V W (A 13) (A 14) (A i) lx a := by
  obtain ⟨lx', h1, h2⟩ := JX_jd h
  have e : lx' = lx := by rw [h1] at hl; exact congrArg Prod.fst hl
  subst e
  refine ⟨fun j hj => ?_, h2⟩
  obtain ⟨hA, ⟨-, -, -, gk⟩, ⟨l1, l2, l3, l4, -⟩, -⟩ := h
  have gx := (gk 0 (by decide)).2
  have l2 : 0 ≤ V (A 1) 5 0 ∧ V (A 1) 5 0 ≤ 6 := l2
  have hv : f_X8_lawOf V (A 1) (V (A 1) 6 0) = (lx', ()) := by
    unfold f_X8_forcedLaw at h1
    rw [bq, bq2] at h1
    have := congrArg Prod.fst h1
    exact Prod.ext this rfl
  rw [c_lawOf] at hv
  by_cases e : 0 ≤ V (A 1) 6 0 ∧ V (A 1) 6 0 < V (A 1) 5 0
  · rw [if_pos e] at hv
    have hq := congrArg Prod.fst hv
    dsimp only at hq
    have hx := gx (V (A 1) 6 0).toNat (by omega)
    have hc : (((V (A 1) 6 0).toNat : Nat) : Int) = V (A 1) 6 0 := by omega
    rw [hc] at hx
    rw [← hq, show A 1 = A (1 + 0) from rfl, hx]
    exact inj_n hA (by omega) (by omega) (by omega)
  · rw [if_neg e] at hv
    have hq := congrArg Prod.fst hv
    dsimp only at hq
    rw [← hq]
    exact Ne.symm (hA.2 j (by omega))
/-- a YEAR passes for the floor i, in both -/
theorem W_year (h : JX A a i V W) (hl : f_X8_forcedLaw V (A 1) = (lx, ())) (hy : V (A i) 5 0 ≤ 998) : ∃ V' W' t, f_X1_wearAYear V (A i) (A 13) lx = (V', t) ∧ f_X12_yearPasses W a = (W', t) ∧ 0 ≤ t ∧ (∀ b m z, ¬ (b = A i ∧ (m = 2 ∨ m = 3 ∨ m = 4 ∨ m = 5)) → ¬ (b = A 14 ∧ m ≤ 3) → V' b m z = V b m z) ∧ (∀ z, 8 ≤ z → V' (A 14) 1 z = V (A 14) 1 z) ∧ (∀ z, z ≠ 0 → V' (A i) 5 z = V (A i) 5 z) ∧ (∀ b m z, ¬ (b = a ∧ (m = 2 ∨ (22 ≤ m ∧ m ≤ 26) ∨ m = 30)) → W' b m z = W b m z) ∧ (∀ z, 29 ≤ z → W' a 2 z = W a 2 z) ∧ W' a 2 27 = W a 2 27 ∧ (ef9 (V' (A i)) (kf (W' a 2) 0) ∧ kgf (V' (A i))) ∧ V' (A i) 5 0 = V (A i) 5 0 + 1 := by
  obtain ⟨hlx, q1, q2, q3, q4, q5, -, -, q8⟩ := JX_lx h hl
  obtain ⟨hA, -, -, -, ⟨hf, hk⟩, hi⟩ := id h
  have hi38 : i < 38 := by omega
  have hlfl : lx ≠ A i := hlx i (by omega)
  have jfl : A 13 ≠ A i := inj_n hA (by decide) hi38 (by omega)
  obtain ⟨e7, e8, e9, e50, e51, e52, ec⟩ := ef9_n hf
  have n9 := hk.1.1
  -- a carpet's numbers
  have JC : ∀ (U X : dV) (d : Int), 0 ≤ d → d < V (A i) 7 0 → (∀ m z, U (A 13) m z = V (A 13) m z) → (lx ≠ -1 → ∀ m z, U lx m z = V lx m z) → U (A i) 0 d = V (A i) 0 d → U (A i) 1 d = V (A i) 1 d → U (A i) 2 d = V (A i) 2 d → (∀ z, U (A i) 5 z = V (A i) 5 z) → (∀ z, 8 ≤ z → U (A 14) 1 z = V (A 14) 1 z) → (∀ z, X a 2 z = W a 2 z) → jc_ok U X (A 13) (A 14) (A i) lx a d := by
    intro U X d d0 d1 u13 ulx u0 u1 u2 u5 u14 x2
    obtain ⟨r0, r1, r2, -, -⟩ := ec d d0 (by omega)
    have k0 := hk.1.2.2.2 d d0 d1
    have k1 := hk.2.2.1 d d0 d1
    have y0 := hk.2.2.2.2.2.2.1
    have y2 := hk.2.2.2.2.2.2.2.2
    have eX : X a 2 = W a 2 := funext x2
    refine ⟨by rw [u13]; exact q1, q2, q3, q4, ?_, ⟨by omega, by rw [u0, x2]; exact ⟨r0, k0.1⟩, by rw [u1, x2]; exact ⟨r1, by omega, by omega⟩, by rw [u2, x2]; exact ⟨r2, k1.2.2.2⟩, by rw [u5, x2]; exact ⟨e50, y0⟩, by rw [u5, x2]; exact ⟨e52, y2⟩⟩, fun k k8 k23 => by rw [u14 k k8]; exact q8 k k8 k23⟩
    unfold lw_ok
    rw [eX]
    rcases q5 with q5 | ⟨w1, w2, w3⟩
    · exact Or.inl q5
    · refine Or.inr ⟨w1, w2, ?_⟩
      rw [show U lx 0 = V lx 0 from funext (ulx w2 0), show U lx 1 = V lx 1 from funext (ulx w2 1), ulx w2, ulx w2]
      exact w3
  have JV : ∀ (X : dV) (d : Int), 0 ≤ d → d < V (A i) 7 0 → (∀ z, X a 2 z = W a 2 z) → jc_ok V X (A 13) (A 14) (A i) lx a d := fun X d d0 d1 x2 => JC V X d d0 d1 (fun _ _ => rfl) (fun _ _ _ => rfl) rfl rfl rfl (fun _ => rfl) (fun _ _ => rfl) x2
  obtain ⟨ω, hω⟩ : ∃ ω : Int → Int, ω = fun d => if (0 ≤ d ∧ d < V (A i) 7 0) ∧ V (A i) 3 d ≠ -1 then (f_X12_wearsNow W a d).2 else 0 := ⟨_, rfl⟩
  have pl : ∀ d, 0 ≤ d → d < V (A i) 7 0 → V (A i) 3 d ≠ -1 → (-1 ≤ V (A i) 3 d ∧ V (A i) 3 d ≤ 12) ∧ (-1 ≤ V (A i) 4 d ∧ V (A i) 4 d ≤ 12) := fun d d0 d1 d3 => by
    have := (hk.1.2.2.2 d d0 d1).2.resolve_left d3
    omega
  have ωb : ∀ d, 0 ≤ ω d ∧ ω d ≤ 9 := fun d => by
    rw [hω]
    dsimp only
    by_cases e : (0 ≤ d ∧ d < V (A i) 7 0) ∧ V (A i) 3 d ≠ -1
    · rw [if_pos e]
      obtain ⟨⟨d0, d1⟩, d3⟩ := e
      obtain ⟨-, -, -, r3, r4⟩ := ec d d0 (by omega)
      obtain ⟨V', W', y, w1, w2, -, -, w5⟩ := jc_wear (JV W d d0 d1 (fun _ => rfl)) r3 r4 (pl d d0 d1 d3).1 (pl d d0 d1 d3).2
      rw [w2]
      exact w5
    · rw [if_neg e]; decide
  have ωe : ∀ d, 0 ≤ d → d < V (A i) 7 0 → V (A i) 3 d ≠ -1 → ω d = (f_X12_wearsNow W a d).2 := fun d d0 d1 d3 => by
    rw [hω]
    dsimp only
    rw [if_pos ⟨⟨d0, d1⟩, d3⟩]
  -- the class
  obtain ⟨V', cV, hI, v50⟩ := c_year (jd := A 13) (lx := lx) (ω := ω) hk hy q3 (fun U d d0 d1 d3 hU => by
    obtain ⟨h1, h2, -, h4⟩ := hU
    obtain ⟨-, -, -, r3, r4⟩ := ec d d0 (by omega)
    obtain ⟨z2, z3, z4⟩ := h4 d
    rw [if_neg (by omega)] at z2 z3 z4
    have hfj : ∀ (m : Nat) (z : Int), m ≠ 2 → m ≠ 3 → m ≠ 4 → U (A i) m z = V (A i) m z := fun m z m2 m3 m4 => h1 _ m z (fun q => by have := q.2; omega) (fun q => q3 q.1)
    obtain ⟨U', X', y, w1, w2, w3, -, -⟩ := jc_wear (JC U W d d0 d1 (fun m z => h1 _ m z (fun q => jfl q.1) (fun q => q2 q.1)) (fun _ m z => h1 lx m z (fun q => hlfl q.1) (fun q => q4 q.1)) (hfj 0 d (by decide) (by decide) (by decide)) (hfj 1 d (by decide) (by decide) (by decide)) z2 (fun z => hfj 5 z (by decide) (by decide) (by decide)) h2 (fun _ => rfl)) (by rw [z3]; exact r3) (by rw [z4]; exact r4) (by rw [z3]; exact (pl d d0 d1 d3).1) (by rw [z4]; exact (pl d d0 d1 d3).2)
    refine ⟨U', ?_, w3⟩
    rw [ωe d d0 d1 d3, w2, w1]) ωb
  obtain ⟨I1, I2, -, I4⟩ := hI
  -- the reference
  have hwW : ∀ (U : dV) (d : Int), 0 ≤ d → d < W a 2 69 → W a 2 (9 + d) ≠ -1 → ym_fr a W U → ∃ U' : dV, f_X12_wearsNow U a d = (U', ω d) ∧ te_fr a U U' := by
    intro U d d0 d1 d3 hU
    have d1' : d < V (A i) 7 0 := by omega
    obtain ⟨-, -, -, r3, r4⟩ := ec d d0 (by omega)
    have d3' : V (A i) 3 d ≠ -1 := by rw [r3]; exact d3
    have u2 : ∀ z, U a 2 z = W a 2 z := fun z => hU a 2 z (fun q => absurd q.2 (by omega))
    obtain ⟨V1, U', y, w1, w2, -, w4, -⟩ := jc_wear (JV U d d0 d1' u2) (by rw [u2]; exact r3) (by rw [u2]; exact r4) (pl d d0 d1' d3').1 (pl d d0 d1' d3').2
    obtain ⟨V2, X', y2, x1, x2, -, -, -⟩ := jc_wear (JV W d d0 d1' (fun _ => rfl)) r3 r4 (pl d d0 d1' d3').1 (pl d d0 d1' d3').2
    have ey : y = y2 := by
      rw [w1] at x1
      exact congrArg Prod.snd x1
    refine ⟨U', ?_, w4⟩
    rw [ωe d d0 d1' d3', x2, w2, ey]
  have hp : ∀ d, 0 ≤ d → d < W a 2 69 → (0 ≤ ω d ∧ ω d ≤ 9) ∧ 0 ≤ W a 2 d ∧ W a 2 d ≤ 9 := fun d d0 d1 => by
    obtain ⟨-, -, r2, -, -⟩ := ec d d0 (by omega)
    rw [← r2]
    exact ⟨ωb d, (hk.2.2.1 d d0 (by omega)).2.2.2⟩
  have hyr := hk.2.2.2.2.2.2.1
  have YR : ∀ U : dV, ym_fr a W U → (∀ d, 0 ≤ d → d < W a 2 69 → W a 2 (9 + d) ≠ -1 → U a 30 d = ω d) → ∃ W' : dV, dv_lp f_X12_yearPasses_43b (U, a, 0, 0) = Sum.inr (W', qs (fun i => if ymG (W a 2) ω (i : Int) then 1 else 0) (W a 2 69).toNat) ∧ (∀ b m z, ¬ (b = a ∧ m = 2) → W' b m z = U b m z) ∧ W' a 2 28 = W a 2 28 + 1 ∧ ymI (W a 2) ω (W a 2 69) (fun z => if z = 28 then W a 2 28 else W' a 2 z) := by
    intro U hU h30
    have u2 : U a 2 = W a 2 := funext fun z => hU a 2 z (fun q => absurd q.2 (by omega))
    have := m_year2 (W := U) (a := a) (ω := ω) (by rw [u2]; omega) (by rw [u2]; omega) (fun d d0 d1 d3 => by
      rw [u2] at d1 d3 ⊢
      exact ⟨h30 d d0 d1 d3, hp d d0 d1⟩)
    rw [u2] at this
    exact this
  obtain ⟨W1, y1, y2, y3⟩ := m_year1 (W := W) (a := a) (ω := ω) (by omega) hwW (fun U hU h30 => by
    obtain ⟨W', w, -⟩ := YR U hU h30
    exact ⟨_, w⟩)
  obtain ⟨W', x1, x2, x3, x4, x5⟩ := YR W1 y2 y3
  rw [x1] at y1
  have eW : f_X12_yearPasses W a = (W', qs (fun i => if ymG (W a 2) ω (i : Int) then 1 else 0) (W a 2 69).toNat) := by
    unfold f_X12_yearPasses
    exact (Sum.inr.inj y1).symm
  have ecnt : qs (fun v : Nat => if yrG (V (A i)) ω (v : Int) then (1 : Int) else 0) (V (A i) 7 0).toNat = qs (fun i => if ymG (W a 2) ω (i : Int) then 1 else 0) (W a 2 69).toNat := by
    rw [← e7]
    refine qs_c fun q hq => ?_
    obtain ⟨-, -, r2, r3, -⟩ := ec (q : Int) (by omega) (by omega)
    refine yr_st (w := 0) ?_
    unfold yrG ymG
    rw [r2, r3]
  have hb := qs_b (f := fun i : Nat => if ymG (W a 2) ω (i : Int) then (1 : Int) else 0) (n := (W a 2 69).toNat) (k := 1) (fun i _ => by split <;> omega)
  have vI : ∀ (b : Int) (m : Nat) (z : Int), ¬ (b = A i ∧ m = 5) → dv_u V' (A i) 5 0 (V (A i) 5 0) b m z = V' b m z := fun b m z hq => by
    by_cases q : b = A i
    · exact u_j (fun w => hq ⟨q, w⟩)
    · exact u_b q
  have F1 : ∀ b m z, ¬ (b = A i ∧ (m = 2 ∨ m = 3 ∨ m = 4 ∨ m = 5)) → ¬ (b = A 14 ∧ m ≤ 3) → V' b m z = V b m z := fun b m z n1 n2 => by
    rw [← vI b m z (fun q => n1 ⟨q.1, by omega⟩)]
    exact I1 b m z (fun q => n1 ⟨q.1, by omega⟩) n2
  have F5 : ∀ z, z ≠ 0 → V' (A i) 5 z = V (A i) 5 z := fun z hz => by
    have := I1 (A i) 5 z (fun q => absurd q.2 (by decide)) (fun q => q3 q.1)
    rw [u_i hz] at this
    exact this
  have w27 : ∀ z, 27 ≤ z → z ≠ 28 → W' a 2 z = W a 2 z := fun z z1 z2 => by
    have := x4 z z1
    dsimp only at this
    rw [if_neg z2] at this
    exact this
  have Fj : ∀ (m : Nat) (z : Int), m ≠ 2 → m ≠ 3 → m ≠ 4 → m ≠ 5 → V' (A i) m z = V (A i) m z := fun m z m2 m3 m4 m5 => F1 _ m z (fun q => by have := q.2; omega) (fun q => q3 q.1)
  have I4' : ∀ z, (V' (A i) 2 z = if (0 ≤ z ∧ z < V (A i) 7 0) ∧ V (A i) 3 z ≠ -1 then max 0 (V (A i) 2 z - ω z) else V (A i) 2 z) ∧ (V' (A i) 3 z = if (0 ≤ z ∧ z < V (A i) 7 0) ∧ V (A i) 3 z ≠ -1 ∧ max 0 (V (A i) 2 z - ω z) = 0 then -1 else V (A i) 3 z) ∧ V' (A i) 4 z = if (0 ≤ z ∧ z < V (A i) 7 0) ∧ V (A i) 3 z ≠ -1 ∧ max 0 (V (A i) 2 z - ω z) = 0 then -1 else V (A i) 4 z := fun z => by
    obtain ⟨h2, h3, h4⟩ := I4 z
    rw [vI _ _ _ (fun q => absurd q.2 (by decide))] at h2 h3 h4
    exact ⟨h2, h3, h4⟩
  refine ⟨V', W', _, cV, by rw [eW, ecnt], by rw [ecnt]; exact hb.1, F1, fun z hz => ?_, F5, fun b m z hn => ?_, fun z hz => w27 z (by omega) (by omega), w27 27 (by decide) (by decide), ⟨ef9_of ⟨?_, ?_, ?_, ?_, ?_, ?_, fun d d0 d9 => ?_⟩, kg_sub hk (fun d d0 d1 => ⟨Fj 0 d (by decide) (by decide) (by decide) (by decide), Fj 1 d (by decide) (by decide) (by decide) (by decide), ?_, ?_⟩) (Fj 7 0 (by decide) (by decide) (by decide) (by decide)) (Fj 8 0 (by decide) (by decide) (by decide) (by decide)) (Fj 9 0 (by decide) (by decide) (by decide) (by decide)) ?_ ?_ (F5 1 (by decide)) (F5 2 (by decide))⟩, v50⟩
  · have := I2 z hz
    rw [vI _ _ _ (fun q => absurd q.2 (by decide))] at this
    exact this
  · rw [x2 b m z (fun q => hn ⟨q.1, Or.inl q.2⟩)]
    exact y2 b m z (fun q => hn ⟨q.1, Or.inr q.2⟩)
  · rw [Fj 7 0 (by decide) (by decide) (by decide) (by decide), w27 69 (by decide) (by decide), e7]
  · rw [Fj 8 0 (by decide) (by decide) (by decide) (by decide), w27 67 (by decide) (by decide), e8]
  · rw [Fj 9 0 (by decide) (by decide) (by decide) (by decide), w27 68 (by decide) (by decide), e9]
  · rw [v50, x3, e50]
  · rw [F5 1 (by decide), w27 65 (by decide) (by decide), e51]
  · rw [F5 2 (by decide), w27 66 (by decide) (by decide), e52]
  · obtain ⟨r0, r1, r2, r3, r4⟩ := ec d d0 d9
    obtain ⟨h2, h3, h4⟩ := I4' d
    obtain ⟨k2, k3, k4⟩ := x5 d d0 d9
    dsimp only at k2 k3 k4
    rw [if_neg (show ¬ d = 28 by omega)] at k2
    rw [if_neg (show ¬ 9 + d = 28 by omega)] at k3
    rw [if_neg (show ¬ 18 + d = 28 by omega)] at k4
    refine ⟨by rw [Fj 0 d (by decide) (by decide) (by decide) (by decide), w27 _ (by omega) (by omega), r0], by rw [Fj 1 d (by decide) (by decide) (by decide) (by decide), w27 _ (by omega) (by omega), r1], ?_, ?_, ?_⟩
    · rw [h2, k2, r2, r3]
      exact yr_st (w := 0) ⟨fun q => ⟨by omega, q.2⟩, fun q => ⟨⟨d0, by omega⟩, q.2⟩⟩
    · rw [h3, k3, r2, r3]
      exact yr_st (w := 0) ⟨fun q => ⟨by omega, q.2⟩, fun q => ⟨⟨d0, by omega⟩, q.2⟩⟩
    · rw [h4, k4, r2, r3, r4]
      exact yr_st (w := 0) ⟨fun q => ⟨by omega, q.2⟩, fun q => ⟨⟨d0, by omega⟩, q.2⟩⟩
  · have hs := (hk.2.2.1 d d0 d1).2.2.2
    have ho := ωb d
    rw [(I4' d).1]
    split <;> omega
  · obtain ⟨-, h3, h4⟩ := I4' d
    by_cases q : (0 ≤ d ∧ d < V (A i) 7 0) ∧ V (A i) 3 d ≠ -1 ∧ max 0 (V (A i) 2 d - ω d) = 0
    · rw [if_pos q] at h3; exact Or.inr h3
    · rw [if_neg q] at h3 h4; exact Or.inl ⟨h3, h4⟩
  · rw [Fj 10 0 (by decide) (by decide) (by decide) (by decide)]; exact hk.2.2.2.2.2.1
  · rw [v50]; omega
theorem D_pass (h : RR A a V W) : ∃ V' W' t, f_X11_doPass V (A 0) = (V', t) ∧ f_X12_passesKept W a = (W', t) ∧ RR A a V' W' ∧ d_ans t ∧ DF A a V W V' W' := by
  have hA := h.1
  obtain ⟨g0, g1, g10, -, g9, -⟩ := RR_G h
  obtain ⟨kk, e7, e8, e9, e10, e50, e51, e52, ec⟩ := RR_n h
  have hyr := kk.2.2.2.2.2.2.1
  by_cases e : V (A 4) 5 0 < 999
  case neg =>
    refine ⟨V, W, -3, ?_, ?_, h, Or.inr (Or.inr (Or.inr rfl)), DF_r⟩
    · unfold f_X11_doPass
      rw [bq, g0, bq, g1, bq, if_neg e]
    · unfold f_X12_passesKept
      rw [bq, if_neg (by omega)]
  case pos =>
    obtain ⟨V1, W1, r1, r2, r3, r4, R⟩ := RR_note (k := 3) h (by decide)
    obtain ⟨lx, hlx, -⟩ := JX_jd (RR_JX R)
    have v1 : ∀ {q : Nat}, q < 38 → q ≠ 15 → ∀ m z, V1 (A q) m z = V (A q) m z := fun hq hn m z => r3 _ m z (fun w => inj_n hA hq (by decide) hn w.1)
    obtain ⟨V2, W2, t, y1, y2, y3, y4, y5, y6, y7, y8, y9, y10, y11⟩ := W_year (RR_JX R) hlx (by rw [v1 (by decide) (by decide)]; omega)
    have R2 : RR A a V2 W2 := by
      obtain ⟨-, -, -, -, -, ⟨p1, p2, p3⟩, -⟩ := id R
      have f15 : ∀ m z, V2 (A 15) m z = V1 (A 15) m z := fun m z => y4 _ m z (fun q => inj_n hA (by decide) (by decide) (by decide) q.1) (fun q => inj_n hA (by decide) (by decide) (by decide) q.1)
      have Fj : ∀ (m : Nat) (z : Int), m ≠ 2 → m ≠ 3 → m ≠ 4 → m ≠ 5 → V2 (A 4) m z = V1 (A 4) m z := fun m z m2 m3 m4 m5 => y4 _ m z (fun q => by have := q.2; omega) (fun q => inj_n hA (by decide) (by decide) (by decide) q.1)
      have w33 : W2 a 33 0 = W1 a 33 0 := y7 a 33 0 (fun q => absurd q.2 (by omega))
      refine RR_act R (fun q m z hq hm hL => y4 _ m z (fun w => ?_) (fun w => ?_)) (fun m z hm => y7 a m z (fun w => ?_)) y5 (fun z hz => y8 z (by omega)) ⟨ef_10 y10.1 (by
        show V2 (A 4) 10 0 = W2 a 2 (0 + 27)
        rw [Fj 10 0 (by decide) (by decide) (by decide) (by decide), Int.zero_add, y9]
        exact (RR_n R).2.2.2.2.1), y10.2⟩ ⟨by rw [f15, w33]; exact p1, by rw [w33]; exact p2, fun u u0 u1 => ?_⟩
      · have := hA.1 q 4 hq (by decide) w.1
        subst this
        cases hL
      · have := hA.1 q 14 hq (by decide) w.1
        subst this
        cases hL
      · unfold M_a at hm
        simp only [Bool.or_eq_false_iff, Bool.and_eq_false_iff, beq_eq_false_iff_ne, decide_eq_false_iff_not, ne_eq] at hm
        omega
      · rw [w33] at u1
        rw [show W2 a 31 = W1 a 31 from funext fun z => y7 a 31 z (fun q => absurd q.2 (by omega)), show V2 (A 15) 0 = V1 (A 15) 0 from funext fun z => f15 0 z]
        exact ⟨(p3 u u0 u1).1, mvf_eq (fun d => ⟨Fj 0 d (by decide) (by decide) (by decide) (by decide), Fj 1 d (by decide) (by decide) (by decide) (by decide), fun hd => y6 d hd⟩) (Fj 7 0 (by decide) (by decide) (by decide) (by decide)) (Fj 8 0 (by decide) (by decide) (by decide) (by decide)) (Fj 9 0 (by decide) (by decide) (by decide) (by decide)) (p3 u u0 u1).2⟩
    refine ⟨V2, W2, t, ?_, ?_, R2, Or.inl y3, DF_t (DF_n hA r3 r4) ⟨fun b m z p q _ => y4 b m z (fun w => p ⟨w.1, by omega⟩) q, y6, fun b m z p => y7 b m z (fun q => p ⟨q.1, by omega⟩), y8⟩⟩
    · have q0 : V1 (A 0) 0 0 = A 1 := by rw [v1 (by decide) (by decide), g0]
      have q1 : V1 (A 1) 0 0 = A 4 := by rw [v1 (by decide) (by decide), g1]
      have q9 : V1 (A 0) 9 0 = A 13 := by rw [v1 (by decide) (by decide), g9]
      unfold f_X11_doPass
      rw [bq, g0, bq, g1, bq, if_pos e, bq, g10, bq, bq, g1, dv_bn2 r1, bq, q0, bq, q1, bq, q9, bq, dv_bn2 hlx, dv_bn2 y1]
    · unfold f_X12_passesKept
      rw [bq, if_pos (by omega), dv_bn2 r2, dv_bn2 y2]
theorem L_pass (h : RR A a V W) : ∃ V' W' u, f_X11_pass V (A 0) = (V', u) ∧ f_X12_pass W a = (W', u) ∧ RR A a V' W' := by
  obtain ⟨V1, W1, t, e1, e2, R, ht, -⟩ := D_pass h
  obtain ⟨V2, W2, r1, r2, r3⟩ := RR_goodOr R ht
  exact ⟨V2, W2, t, by unfold f_X11_pass; rw [dv_bn2 e1, dv_bn2 r1], by unfold f_X12_pass; rw [dv_bn2 e2, dv_bn2 r2], r3⟩
end QTB
end
section
section QTC
variable {V V' V0 V1 V2 U W W' W0 W1 W2 : dV} {a b c z t k s p x y n u o r fl dn lt : Int} {A : Nat → Int} {w : Int → Int} {φ : Nat → Int → Int}
def bar (φ : Nat → Int → Int) : Int := φ 8 0 * φ 9 0 - qs (sqf φ) (φ 7 0).toNat
theorem bar_b (g : kgf φ) : 0 ≤ bar φ ∧ bar φ ≤ 144 := by
  refine ⟨kg_bare g, ?_⟩
  have h := qs_b (f := sqf φ) (n := (φ 7 0).toNat) (k := 144) (fun i hi => sqf_b g.1 (by omega))
  have hm := Int.mul_le_mul (a := φ 8 0) (b := φ 9 0) (c := 12) (d := 12) (by have := g.1.2.1; omega) (by have := g.1.2.2.1; omega) (by have := g.2.2.2.2.1; omega) (by decide)
  unfold bar
  omega
/-- the words of orders -/
def wo (φ : Nat → Int → Int) (dn lt k : Int) : Int := if k = 0 then φ 5 0 else if k = 1 then dn else if k = 2 then lt else if k = 3 then bar φ else if k = 4 then φ 10 0 else if k < 14 then (if 0 ≤ k - 5 ∧ k - 5 < φ 7 0 then φ 2 (k - 5) else -1) else if k < 23 then (if k - 14 < φ 7 0 then (if φ 3 (k - 14) = -1 then 0 else 1) else -1) else 0
theorem wo_p (c0 : 0 ≤ c) (c9 : c < 9) : wo φ dn lt (5 + c) = if 0 ≤ c ∧ c < φ 7 0 then φ 2 c else -1 := by
  unfold wo
  rw [if_neg (by omega), if_neg (by omega), if_neg (by omega), if_neg (by omega), if_neg (by omega), if_pos (by omega), show 5 + c - 5 = c by omega]
theorem wo_l (c0 : 0 ≤ c) (c9 : c < 9) : wo φ dn lt (14 + c) = if c < φ 7 0 then (if φ 3 c = -1 then 0 else 1) else -1 := by
  unfold wo
  rw [if_neg (by omega), if_neg (by omega), if_neg (by omega), if_neg (by omega), if_neg (by omega), if_neg (by omega), if_pos (by omega), show 14 + c - 14 = c by omega]
theorem wo_b (g : kgf φ) (hd : 0 ≤ dn ∧ dn ≤ 1000) (hl : -3 ≤ lt ∧ lt ≤ 1000) (k : Int) : -2147483648 ≤ wo φ dn lt k ∧ wo φ dn lt k ≤ 2147483647 := by
  have hb := bar_b g
  obtain ⟨-, -, gs, -, -, gp, gy, -, -⟩ := g
  unfold wo
  by_cases e0 : k = 0
  · rw [if_pos e0]; omega
  rw [if_neg e0]
  by_cases e1 : k = 1
  · rw [if_pos e1]; omega
  rw [if_neg e1]
  by_cases e2 : k = 2
  · rw [if_pos e2]; omega
  rw [if_neg e2]
  by_cases e3 : k = 3
  · rw [if_pos e3]; omega
  rw [if_neg e3]
  by_cases e4 : k = 4
  · rw [if_pos e4]; omega
  rw [if_neg e4]
  by_cases e5 : k < 14
  · rw [if_pos e5]
    by_cases q : 0 ≤ k - 5 ∧ k - 5 < φ 7 0
    · rw [if_pos q]
      have := (gs (k - 5) q.1 q.2).2.2.2
      omega
    · rw [if_neg q]; decide
  rw [if_neg e5]
  by_cases e6 : k < 23
  · rw [if_pos e6]
    by_cases q : k - 14 < φ 7 0
    · rw [if_pos q]
      by_cases q1 : φ 3 (k - 14) = -1
      · rw [if_pos q1]; decide
      · rw [if_neg q1]; decide
    · rw [if_neg q]; decide
  · rw [if_neg e6]; decide
/-- what setting the words changes -/
def w1_fr (r : Int) (V V' : dV) : Prop := ∀ b m z, ¬ (b = r ∧ m = 1) → V' b m z = V b m z
theorem w1_u {i : Int} : w1_fr r V (dv_u V r 1 i y) := fun b m z h => by
  unfold dv_u; rw [if_neg (fun e => h ⟨e.1, e.2.1⟩)]
theorem w1_t (h : w1_fr r V V') (k : w1_fr r V' V1) : w1_fr r V V1 := fun b m z q => (k b m z q).trans (h b m z q)
theorem c_owords (hf : fl ≠ r) (g : kgf (V fl)) : ∃ V', f_X6_setOrderWords V r fl = (V', 0) ∧ w1_fr r V V' ∧ ∀ k, 0 ≤ k → k < 23 → V' r 1 k = wo (V fl) (V r 1 1) (V r 1 2) k := by
  have L : ∀ V1 : dV, w1_fr r V V1 → (∀ k, 0 ≤ k → k < 5 → V1 r 1 k = wo (V fl) (V r 1 1) (V r 1 2) k) → ∃ V' : dV, dv_lp f_X6_setOrderWords_34b (V1, r, fl, 0) = (V', 0) ∧ w1_fr r V V' ∧ ∀ k, 0 ≤ k → k < 23 → V' r 1 k = wo (V fl) (V r 1 1) (V r 1 2) k := by
    intro V1 hV1 h5
    refine dv_inv (P := fun q => ∃ (U : dV) (j : Int), q = (U, r, fl, j) ∧ 0 ≤ j ∧ j ≤ 9 ∧ w1_fr r V U ∧ (∀ k, 0 ≤ k → k < 5 → U r 1 k = wo (V fl) (V r 1 1) (V r 1 2) k) ∧ ∀ c, 0 ≤ c → c < j → U r 1 (5 + c) = wo (V fl) (V r 1 1) (V r 1 2) (5 + c) ∧ U r 1 (14 + c) = wo (V fl) (V r 1 1) (V r 1 2) (14 + c)) (Q := fun q => ∃ V' : dV, q = (V', 0) ∧ w1_fr r V V' ∧ ∀ k, 0 ≤ k → k < 23 → V' r 1 k = wo (V fl) (V r 1 1) (V r 1 2) k) (m := fun q => (9 - q.2.2.2).toNat) ?_ _ ⟨V1, 0, rfl, by decide, by decide, hV1, h5, fun c c0 c1 => absurd c1 (by omega)⟩
    rintro q ⟨U, j, rfl, j0, j9, hU, h5, hc⟩
    have uf : ∀ m z, U fl m z = V fl m z := fun m z => hU fl m z (fun q => hf q.1)
    rw [f_X6_setOrderWords_34e]
    unfold f_X6_setOrderWords_34c f_X6_setOrderWords_65 f_X6_setOrderWords_99
    by_cases e : 9 ≤ j
    · rw [if_pos e]
      refine Or.inr ⟨_, rfl, U, rfl, hU, fun k k0 k1 => ?_⟩
      by_cases q5 : k < 5
      · exact h5 k k0 q5
      · by_cases q14 : k < 14
        · have := (hc (k - 5) (by omega) (by omega)).1
          rw [show 5 + (k - 5) = k by omega] at this; exact this
        · have := (hc (k - 14) (by omega) (by omega)).2
          rw [show 14 + (k - 14) = k by omega] at this; exact this
    · rw [if_neg e, bq]
      have FIN : ∀ v1 v2, v1 = wo (V fl) (V r 1 1) (V r 1 2) (5 + j) → v2 = wo (V fl) (V r 1 1) (V r 1 2) (14 + j) → (∃ t : dV × Int × Int × Int, (Sum.inl (dv_u (dv_u U r 1 (5 + j) v1) r 1 (14 + j) v2, r, fl, j + 1) : Sum (dV × Int × Int × Int) dR) = Sum.inl t ∧ (∃ (U : dV) (j : Int), t = (U, r, fl, j) ∧ 0 ≤ j ∧ j ≤ 9 ∧ w1_fr r V U ∧ (∀ k, 0 ≤ k → k < 5 → U r 1 k = wo (V fl) (V r 1 1) (V r 1 2) k) ∧ ∀ c, 0 ≤ c → c < j → U r 1 (5 + c) = wo (V fl) (V r 1 1) (V r 1 2) (5 + c) ∧ U r 1 (14 + c) = wo (V fl) (V r 1 1) (V r 1 2) (14 + c)) ∧ (9 - t.2.2.2).toNat < (9 - j).toNat) := by
        intro v1 v2 e1 e2
        refine ⟨_, rfl, ⟨_, j + 1, rfl, by omega, by omega, w1_t (w1_t hU w1_u) w1_u, fun k k0 k5 => ?_, fun c c0 c1 => ?_⟩, by dsimp only; omega⟩
        · rw [u_i (by omega), u_i (by omega)]; exact h5 k k0 k5
        · rw [u_if, u_if, u_if, u_if]
          by_cases q : c = j
          · subst q
            rw [if_neg (by omega), if_pos rfl, if_pos rfl]; exact ⟨e1, e2⟩
          · rw [if_neg (by omega), if_neg (by omega), if_neg (by omega), if_neg (by omega)]; exact hc c c0 (by omega)
      have gu : ∀ v1 m z, dv_u U r 1 (5 + j) v1 fl m z = V fl m z := fun v1 m z => by rw [u_b hf, uf]
      by_cases q : 0 ≤ j ∧ j < V fl 7 0
      · have hV : f_X1_has U fl j = (1, ()) := by rw [q_has, uf, if_pos q]
        have hV2 : f_X1_has (dv_u U r 1 (5 + j) (V fl 2 j)) fl j = (1, ()) := by rw [q_has, gu, if_pos q]
        rw [dv_bn2 hV, if_neg (by decide), bq, uf, bq, bq, dv_bn2 hV2, if_pos (by decide)]
        by_cases q3 : V fl 3 j = -1
        · have lV : f_X1_isLaid (dv_u U r 1 (5 + j) (V fl 2 j)) fl j = (0, ()) := by rw [q_isLaid, gu, gu, if_neg (fun w => w.2.2 q3)]
          rw [dv_bn2 lV, if_pos rfl, bq, bq]
          exact Or.inl (FIN _ _ (by rw [wo_p j0 (by omega), if_pos q]) (by rw [wo_l j0 (by omega), if_pos q.2, if_pos q3]))
        · have lV : f_X1_isLaid (dv_u U r 1 (5 + j) (V fl 2 j)) fl j = (1, ()) := by rw [q_isLaid, gu, gu, if_pos ⟨q.1, q.2, q3⟩]
          rw [dv_bn2 lV, if_neg (by decide), bq, bq]
          exact Or.inl (FIN _ _ (by rw [wo_p j0 (by omega), if_pos q]) (by rw [wo_l j0 (by omega), if_pos q.2, if_neg q3]))
      · have hV : f_X1_has U fl j = (0, ()) := by rw [q_has, uf, if_neg q]
        have hV2 : f_X1_has (dv_u U r 1 (5 + j) (-1)) fl j = (0, ()) := by rw [q_has, gu, if_neg q]
        rw [dv_bn2 hV, if_pos rfl, bq, bq, dv_bn2 hV2, if_neg (fun w => w rfl), bq, bq]
        exact Or.inl (FIN _ _ (by rw [wo_p j0 (by omega), if_neg q]) (by rw [wo_l j0 (by omega), if_neg (by omega)]))
  unfold f_X6_setOrderWords
  have hB : f_X1_bareCells (dv_u V r 1 0 (V fl 5 0)) fl = (bar (V fl), ()) := by
    have e : dv_u V r 1 0 (V fl 5 0) fl = V fl := funext fun m => funext fun z => u_b hf
    rw [q_bareCells (by rw [e]; exact g.1), e]
    rfl
  rw [bq, bq, dv_bn2 hB, bq, bq, bq, u_b hf, u_b hf]
  refine L _ (w1_t (w1_t w1_u w1_u) w1_u) (fun k k0 k5 => ?_)
  unfold wo
  rw [u_if, u_if, u_if]
  have hk : k = 0 ∨ k = 1 ∨ k = 2 ∨ k = 3 ∨ k = 4 := by omega
  rcases hk with rfl | rfl | rfl | rfl | rfl <;> rfl
/-- what the words are worth in the reference -/
def ow (a : Int) (w : Int → Int) (V : dV) : Prop := ∀ V' : dV, (∀ z, V' a 2 z = V a 2 z) → V' a 27 0 = V a 27 0 → V' a 28 0 = V a 28 0 → (∀ k, 0 ≤ k → k ≤ 8 → f_X12_orderValue V' a 14 k = (w (5 + k), ())) ∧ (∀ k, 0 ≤ k → k ≤ 8 → f_X12_orderValue V' a 20 k = (w (14 + k), ())) ∧ ∀ c k, 15 ≤ c → c ≤ 19 → f_X12_orderValue V' a c k = (w (c - 15), ())
theorem ow_c (h : ow a w V) (h2 : ∀ z, V' a 2 z = V a 2 z) (h7 : V' a 27 0 = V a 27 0) (h8 : V' a 28 0 = V a 28 0) : ow a w V' := fun V1 k2 k7 k8 => h V1 (fun z => (k2 z).trans (h2 z)) (k7.trans h7) (k8.trans h8)
theorem ow_ex (h : ow a w V) : ex_ow a w V := fun V' f => h V' (fun z => f a 2 z (fun q => absurd q.2 (by decide))) (f a 27 0 (fun q => absurd q.2 (by decide))) (f a 28 0 (fun q => absurd q.2 (by decide)))
theorem RR_ow (h : RR A a V W) : ow a (wo (V (A 4)) (W a 27 0) (W a 28 0)) W := by
  obtain ⟨kk, e7, e8, e9, e10, e50, e51, e52, ec⟩ := RR_n h
  have e := h.2.2.1.1.1
  intro W' h2 h7 h8
  have eW : W' a 2 = W a 2 := funext h2
  refine ⟨fun k k0 k8 => ?_, fun k k0 k8 => ?_, fun c k c0 c1 => ?_⟩
  · rw [wo_p k0 (by omega)]
    unfold f_X12_orderValue
    rw [if_pos rfl, bq2, q_isCarpet, h2]
    dsimp only
    by_cases q : 0 ≤ k ∧ k < W a 2 69
    · rw [if_pos q, if_neg (by decide), bq, bq, h2, if_pos (by omega), Int.zero_add]
      rw [(ec k k0 (by omega)).2.2.1]
    · rw [if_neg q, if_pos rfl, if_neg (by omega)]
  · rw [wo_l k0 (by omega)]
    unfold f_X12_orderValue
    rw [if_neg (by decide), if_neg (by decide), if_neg (by decide), if_neg (by decide), if_neg (by decide), if_neg (by decide), if_pos rfl, bq2, q_isCarpet, h2]
    dsimp only
    by_cases q : 0 ≤ k ∧ k < W a 2 69
    · rw [if_pos q, if_pos (by decide), bq2, q_mLaid, h2, if_pos (show k < V (A 4) 7 0 by omega), (ec k k0 (by omega)).2.2.2.1]
      dsimp only
      by_cases q1 : W a 2 (9 + k) = -1
      · rw [if_pos q1, if_pos rfl]
      · rw [if_neg q1, if_neg (by decide)]
    · rw [if_neg q, if_neg (fun w => w rfl), if_neg (by omega)]
  · have hc : c = 15 ∨ c = 16 ∨ c = 17 ∨ c = 18 ∨ c = 19 := by omega
    unfold f_X12_orderValue
    rcases hc with rfl | rfl | rfl | rfl | rfl
    · rw [if_neg (by decide), if_pos rfl, bq, h2, ← e50]; rfl
    · rw [if_neg (by decide), if_neg (by decide), if_pos rfl, bq, h7]; rfl
    · rw [if_neg (by decide), if_neg (by decide), if_neg (by decide), if_pos rfl, bq, h8]; rfl
    · rw [if_neg (by decide), if_neg (by decide), if_neg (by decide), if_neg (by decide), if_pos rfl, q_bareMany, eW, bq2]
      have hq := ef_sqf (φ := V (A 4)) e kk.1
      have k8 : V (A 4) 8 0 = kf (W a 2) 0 8 0 := e.2.2.2.1
      have k9 : V (A 4) 9 0 = kf (W a 2) 0 9 0 := e.2.2.2.2.1
      dsimp only
      rw [← k8, ← k9, ← hq]
      rfl
    · rw [if_neg (by decide), if_neg (by decide), if_neg (by decide), if_neg (by decide), if_neg (by decide), if_pos rfl, bq, h2, ← e10]; rfl
end QTC
section QTD
variable {V V' V0 V1 V2 U U1 W W' W0 W1 W2 : dV} {a c z t k s p q x y n u o r fl B P i j m m' live sn τ : Int} {A : Nat → Int} {w cd vl X M : Int → Int} {S T S0 S1 S2 : dn}
/-- what going along may change -/
def ga_fr (a : Int) (V V' : dV) : Prop := ∀ b m z, ¬ (b = a ∧ (m = 22 ∨ m = 24 ∨ m = 49 ∨ m = 51 ∨ m = 52 ∨ m = 53)) → V' b m z = V b m z
theorem ga_r : ga_fr a V V := fun _ _ _ _ => rfl
theorem ga_t (h : ga_fr a V V') (k : ga_fr a V' V1) : ga_fr a V V1 := fun b m z q => (k b m z q).trans (h b m z q)
theorem ga_e (h : ex_fr a V V') : ga_fr a V V' := fun b m z q => h b m z (fun w => q ⟨w.1, by omega⟩)
theorem ga_u {m : Nat} {i : Int} (hm : m = 22 ∨ m = 24 ∨ m = 49 ∨ m = 51 ∨ m = 52 ∨ m = 53) : ga_fr a V (dv_u V a m i y) := fun b m' z q => by
  unfold dv_u; rw [if_neg (fun e => q ⟨e.1, by omega⟩)]
/-- a text of orders in the reference -/
def gx (cd vl w : Int → Int) (a B : Int) (V : dV) : Prop := (∀ i, 0 ≤ i → cd i = if B + i < V a 23 0 then V a 2 (80 + (B + i)) else 0) ∧ (∀ i, 0 ≤ i → vl i = V a 2 (2880 + (B + i))) ∧ V a 25 0 = 1 ∧ ow a w V
theorem gx_f (h : gx cd vl w a B V) (f : ga_fr a V V') : gx cd vl w a B V' := by
  obtain ⟨h1, h2, h3, h4⟩ := h
  have k : ∀ j z, j ≠ 22 → j ≠ 24 → j ≠ 49 → j ≠ 51 → j ≠ 52 → j ≠ 53 → V' a j z = V a j z := fun j z n1 n2 n3 n4 n5 n6 => f a j z (fun q => by have := q.2; omega)
  have k2 : ∀ z, V' a 2 z = V a 2 z := fun z => k 2 z (by decide) (by decide) (by decide) (by decide) (by decide) (by decide)
  refine ⟨fun i hi => ?_, fun i hi => ?_, ?_, ow_c h4 k2 (k 27 0 (by decide) (by decide) (by decide) (by decide) (by decide) (by decide)) (k 28 0 (by decide) (by decide) (by decide) (by decide) (by decide) (by decide))⟩
  · rw [k 23 0 (by decide) (by decide) (by decide) (by decide) (by decide) (by decide), k2]; exact h1 i hi
  · rw [k2]; exact h2 i hi
  · rw [k 25 0 (by decide) (by decide) (by decide) (by decide) (by decide) (by decide)]; exact h3
theorem gx_ex (h : gx cd vl w a B V) : ex_cx 1 cd vl w a B V := ⟨h.1, h.2.1, h.2.2.1, fun q => absurd q (by decide), fun _ => ow_ex h.2.2.2⟩
/-- one of the sums -/
theorem go_97 (hS : D_sum 1 cd vl 8 p q S) (p0 : 0 ≤ p) (hx : gx cd vl w a B U) (hg : U a 22 0 = B + p) (hw : ∀ k, -2147483648 ≤ w k ∧ w k ≤ 2147483647) : ∃ V' : dV, f_X12_goesAlong_97 U sn a live j = Sum.inl (V', sn, a, live, j + 1) ∧ ga_fr a U V' ∧ V' a 22 0 = B + q ∧ (∀ z, z ≠ j → V' a 53 z = U a 53 z) ∧ (live ≠ 0 → (S w = none ∧ V' a 51 0 = 0) ∨ ∃ v, S w = some v ∧ V' a 53 j = v ∧ (V' a 51 0 = 0 ↔ U a 51 0 = 0)) := by
  have F1 : ga_fr a U (dv_u U a 24 0 0) := ga_u (by decide)
  obtain ⟨U3, v, e3, F3, g3, r3, -⟩ := er_sum (Or.inr rfl) hw 8 p q S hS p0 (dv_u U a 24 0 0) live (gx_ex (gx_f hx F1)) (by rw [u24_22]; exact hg)
  rw [u24] at r3
  have F4 : ga_fr a U (dv_u U3 a 53 j v) := ga_t (ga_t F1 (ga_e F3)) (ga_u (by decide))
  have g4 : dv_u U3 a 53 j v a 22 0 = B + q := by rw [u_j (by decide)]; exact g3
  have k51 : dv_u U3 a 53 j v a 51 0 = U a 51 0 := by rw [u_j (by decide), F3 a 51 0 (fun q => absurd q.2 (by decide)), u_j (by decide)]
  have k24 : dv_u U3 a 53 j v a 24 0 = U3 a 24 0 := u_j (by decide)
  have k53 : ∀ z, dv_u U3 a 53 j v a 53 z = if z = j then v else U a 53 z := fun z => by
    rw [u_if, F3 a 53 z (fun q => absurd q.2 (by decide)), u_j (by decide)]
  have E : ∀ Z, (if dv_u U3 a 53 j v a 51 0 = 0 then f_X12_goesAlong_133 (dv_u U3 a 53 j v) sn a live j else if dv_u U3 a 53 j v a 24 0 ≠ 0 then f_X12_goesAlong_133 (dv_u U3 a 53 j v) sn a live j else f_X12_goesAlong_134 (dv_u U3 a 53 j v) sn a live j 1) = Z → f_X12_goesAlong_97 U sn a live j = Z := by
    intro Z hZ
    unfold f_X12_goesAlong_97
    rw [bq, dv_bn2 e3, bq, bq]
    exact hZ
  have T : ∀ v', f_X12_goesAlong_134 (dv_u U3 a 53 j v) sn a live j v' = Sum.inl (dv_u (dv_u U3 a 53 j v) a 51 0 v', sn, a, live, j + 1) := fun v' => by
    unfold f_X12_goesAlong_134
    rw [bq, bq]
  have K : ∀ v', dv_u (dv_u U3 a 53 j v) a 51 0 v' a 22 0 = B + q ∧ (∀ z, z ≠ j → dv_u (dv_u U3 a 53 j v) a 51 0 v' a 53 z = U a 53 z) ∧ dv_u (dv_u U3 a 53 j v) a 51 0 v' a 53 j = v ∧ dv_u (dv_u U3 a 53 j v) a 51 0 v' a 51 0 = v' := fun v' => ⟨by rw [u_j (by decide)]; exact g4, fun z hz => by rw [u_j (by decide), k53, if_neg hz], by rw [u_j (by decide), k53, if_pos rfl], u_e⟩
  by_cases e51 : U a 51 0 = 0
  · obtain ⟨K1, K2, K3, K4⟩ := K 0
    refine ⟨_, E _ (by rw [if_pos (by rw [k51]; exact e51)]; exact T 0), ga_t F4 (ga_u (by decide)), K1, K2, fun hl => ?_⟩
    cases hS' : S w with
    | none => exact Or.inl ⟨rfl, K4⟩
    | some t =>
      unfold ex_rs at r3
      rw [if_neg hl, if_neg (fun q => q rfl), hS'] at r3
      have r3 : U3 a 24 0 = 0 ∧ v = t := r3
      exact Or.inr ⟨t, rfl, by rw [K3, r3.2], ⟨fun _ => e51, fun _ => K4⟩⟩
  · by_cases e24 : U3 a 24 0 = 0
    · obtain ⟨K1, K2, K3, K4⟩ := K 1
      refine ⟨_, E _ (by rw [if_neg (by rw [k51]; exact e51), if_neg (by rw [k24]; exact fun q => q e24)]; exact T 1), ga_t F4 (ga_u (by decide)), K1, K2, fun hl => ?_⟩
      unfold ex_rs at r3
      rw [if_neg hl, if_neg (fun q => q rfl)] at r3
      cases hS' : S w with
      | none => rw [hS'] at r3; exact absurd e24 r3
      | some t =>
        rw [hS'] at r3
        have r3 : U3 a 24 0 = 0 ∧ v = t := r3
        exact Or.inr ⟨t, rfl, by rw [K3, r3.2], ⟨fun q => absurd (K4.symm.trans q) (by decide), fun q => absurd q e51⟩⟩
    · obtain ⟨K1, K2, K3, K4⟩ := K 0
      refine ⟨_, E _ (by rw [if_neg (by rw [k51]; exact e51), if_pos (by rw [k24]; exact e24)]; exact T 0), ga_t F4 (ga_u (by decide)), K1, K2, fun hl => ?_⟩
      unfold ex_rs at r3
      rw [if_neg hl, if_neg (fun q => q rfl)] at r3
      cases hS' : S w with
      | none => exact Or.inl ⟨rfl, K4⟩
      | some t =>
        rw [hS'] at r3
        have r3 : U3 a 24 0 = 0 ∧ v = t := r3
        exact absurd r3.1 e24
theorem go_76 (hj : j < sn) (hS : D_sum 1 cd vl 8 p q S) (p0 : 0 ≤ p) (hx : gx cd vl w a B U) (hg : U a 22 0 = B + (if j ≤ 0 then p else p - 1)) (hw : ∀ k, -2147483648 ≤ w k ∧ w k ≤ 2147483647) : ∃ V' : dV, f_X12_goesAlong_76b (U, sn, a, live, j) = Sum.inl (V', sn, a, live, j + 1) ∧ ga_fr a U V' ∧ V' a 22 0 = B + q ∧ (∀ z, z ≠ j → V' a 53 z = U a 53 z) ∧ (live ≠ 0 → (S w = none ∧ V' a 51 0 = 0) ∨ ∃ v, S w = some v ∧ V' a 53 j = v ∧ (V' a 51 0 = 0 ↔ U a 51 0 = 0)) := by
  rw [f_X12_goesAlong_76e]
  unfold f_X12_goesAlong_76c
  rw [if_neg (by omega)]
  by_cases e : j ≤ 0
  · rw [if_pos e]
    rw [if_pos e] at hg
    exact go_97 hS p0 hx hg hw
  · rw [if_neg e, bq, bq, bq]
    rw [if_neg e] at hg
    have F : ga_fr a U (dv_u U a 22 0 (U a 22 0 + 1)) := ga_u (by decide)
    obtain ⟨V', e1, f1, g1, h1, h2⟩ := go_97 (sn := sn) (j := j) (live := live) hS p0 (gx_f hx F) (by rw [u22, hg]; omega) hw
    refine ⟨V', e1, ga_t F f1, g1, fun z hz => by rw [h1 z hz, u_j (by decide)], fun hl => ?_⟩
    have := h2 hl
    rw [u_j (by decide)] at this
    exact this
/-- the "if" behind them -/
theorem go_211 (hg : U a 22 0 = B + j) : ∃ V' : dV, f_X12_goesAlong_211 U a t = Sum.inr (V', 0) ∧ ga_fr a U V' ∧ V' a 22 0 = B + (j + 1) ∧ V' a 49 0 = U a 49 0 ∧ V' a 51 0 = U a 51 0 ∧ (∀ z, V' a 53 z = U a 53 z) ∧ (V' a 52 0 ≠ 0 ↔ t ≠ 0 ∧ U a 24 0 = 0) := by
  have L : ∀ v, ∃ V' : dV, f_X12_goesAlong_234 (dv_u U a 52 0 t) a v = Sum.inr (V', 0) ∧ ga_fr a U V' ∧ V' a 22 0 = B + (j + 1) ∧ V' a 49 0 = U a 49 0 ∧ V' a 51 0 = U a 51 0 ∧ (∀ z, V' a 53 z = U a 53 z) ∧ V' a 52 0 = v := by
    intro v
    unfold f_X12_goesAlong_234
    rw [bq, bq, bq, bq]
    refine ⟨_, rfl, ga_t (ga_t (ga_u (by decide)) (ga_u (by decide))) (ga_u (by decide)), ?_, ?_, ?_, fun z => ?_, ?_⟩
    · rw [u_e, u_j (by decide), u_j (by decide), hg]; omega
    · rw [u_j (by decide), u_j (by decide), u_j (by decide)]
    · rw [u_j (by decide), u_j (by decide), u_j (by decide)]
    · rw [u_j (by decide), u_j (by decide), u_j (by decide)]
    · rw [u_j (by decide), u_e]
  unfold f_X12_goesAlong_211 f_X12_goesAlong_233
  rw [bq, bq, u_e]
  by_cases e : t = 0
  · obtain ⟨V', l1, l2, l3, l4, l5, l6, l7⟩ := L 0
    rw [if_pos e]
    exact ⟨V', l1, l2, l3, l4, l5, l6, ⟨fun q => absurd l7 q, fun q => absurd e q.1⟩⟩
  · rw [if_neg e, bq, u_j (by decide)]
    by_cases e1 : U a 24 0 = 0
    · obtain ⟨V', l1, l2, l3, l4, l5, l6, l7⟩ := L 1
      rw [if_neg (fun q => q e1)]
      exact ⟨V', l1, l2, l3, l4, l5, l6, ⟨fun _ => ⟨e, e1⟩, fun _ => by rw [l7]; decide⟩⟩
    · obtain ⟨V', l1, l2, l3, l4, l5, l6, l7⟩ := L 0
      rw [if_pos e1]
      exact ⟨V', l1, l2, l3, l4, l5, l6, ⟨fun q => absurd l7 q, fun q => absurd q.2 e1⟩⟩
theorem go_184 (hT : (cd m ≠ 4 ∧ j = m ∧ T = fun _ => some 1) ∨ (cd m = 4 ∧ m + 1 < j ∧ D_test 1 cd vl 8 (m + 1) j T)) (m0 : 0 ≤ m) (hx : gx cd vl w a B U) (hg : U a 22 0 = B + m) (hw : ∀ k, -2147483648 ≤ w k ∧ w k ≤ 2147483647) : ∃ V' : dV, f_X12_goesAlong_184 U a live = Sum.inr (V', 0) ∧ ga_fr a U V' ∧ V' a 22 0 = B + (j + 1) ∧ V' a 49 0 = U a 49 0 ∧ V' a 51 0 = U a 51 0 ∧ (∀ z, V' a 53 z = U a 53 z) ∧ (live ≠ 0 → (V' a 52 0 ≠ 0 ↔ so (T w))) := by
  have F1 : ga_fr a U (dv_u U a 24 0 0) := ga_u (by decide)
  have x1 := gx_f hx F1
  have g1 : dv_u U a 24 0 0 a 22 0 = B + m := by rw [u24_22]; exact hg
  unfold f_X12_goesAlong_184 f_X12_goesAlong_206
  rw [bq]
  have FIN : ∀ (U3 : dV) (tt : Int), ga_fr a U U3 → U3 a 22 0 = B + j → U3 a 49 0 = U a 49 0 → U3 a 51 0 = U a 51 0 → (∀ z, U3 a 53 z = U a 53 z) → (live ≠ 0 → (tt ≠ 0 ∧ U3 a 24 0 = 0 ↔ so (T w))) → ∃ V' : dV, f_X12_goesAlong_211 U3 a tt = Sum.inr (V', 0) ∧ ga_fr a U V' ∧ V' a 22 0 = B + (j + 1) ∧ V' a 49 0 = U a 49 0 ∧ V' a 51 0 = U a 51 0 ∧ (∀ z, V' a 53 z = U a 53 z) ∧ (live ≠ 0 → (V' a 52 0 ≠ 0 ↔ so (T w))) := by
    intro U3 tt f3 g3 h49 h51 h53 ht
    obtain ⟨V', l1, l2, l3, l4, l5, l6, l7⟩ := go_211 (t := tt) g3
    exact ⟨V', l1, ga_t f3 l2, l3, l4.trans h49, l5.trans h51, fun z => (l6 z).trans (h53 z), fun hl => l7.trans (ht hl)⟩
  rcases hT with ⟨h4, rfl, rfl⟩ | ⟨h4, hl, hD⟩
  · rw [dv_bn2 (q_pass0 (gx_ex x1) m0 g1 h4), if_pos rfl]
    refine FIN _ 1 F1 g1 (u_j (by decide)) (u_j (by decide)) (fun z => u_j (by decide)) (fun _ => ⟨fun _ => ⟨1, rfl, by decide⟩, fun _ => ⟨by decide, u24⟩⟩)
  · rw [dv_bn2 (q_pass1 (gx_ex x1) m0 g1 h4), if_neg (by decide)]
    have F2 : ga_fr a U (dv_u (dv_u U a 24 0 0) a 22 0 (B + (m + 1))) := ga_t F1 (ga_u (by decide))
    have x2 := gx_f hx F2
    have g2 : dv_u (dv_u U a 24 0 0) a 22 0 (B + (m + 1)) a 22 0 = B + (m + 1) := u22
    have b2 : dv_u (dv_u U a 24 0 0) a 22 0 (B + (m + 1)) a 24 0 = 0 := by rw [u22_24, u24]
    obtain ⟨U3, v, e3, F3, g3, r3, -⟩ := er_test (Or.inr rfl) hw 8 (m + 1) j T hD (by omega) _ live (gx_ex x2) g2
    rw [b2] at r3
    rw [dv_bn2 e3]
    have k : ∀ (mm : Nat) (z : Int), mm = 49 ∨ mm = 51 ∨ mm = 53 → U3 a mm z = U a mm z := fun mm z hm => by
      rw [F3 a mm z (fun q => by have := q.2; omega), u_j (by omega), u_j (by omega)]
    have FF : ga_fr a U U3 := ga_t F2 (ga_e F3)
    have RS : live ≠ 0 → (v ≠ 0 ∧ U3 a 24 0 = 0 ↔ so (T w)) := fun hl => by
      unfold ex_rs at r3
      rw [if_neg hl, if_neg (fun q => q rfl)] at r3
      cases hTw : T w with
      | none =>
        rw [hTw] at r3
        exact ⟨fun q => absurd q.2 r3, fun ⟨z, hz, _⟩ => by cases hz⟩
      | some t =>
        rw [hTw] at r3
        have r3 : U3 a 24 0 = 0 ∧ v = t := r3
        exact ⟨fun q => ⟨t, rfl, by rw [← r3.2]; exact q.1⟩, fun ⟨z, hz, nz⟩ => by cases hz; exact ⟨by rw [r3.2]; exact nz, r3.1⟩⟩
    by_cases ev : v = 0
    · rw [if_pos ev]
      exact FIN U3 0 FF g3 (k 49 0 (by decide)) (k 51 0 (by decide)) (fun z => k 53 z (by decide)) (fun hl => ⟨fun q => absurd rfl q.1, fun q => absurd ev ((RS hl).mpr q).1⟩)
    · rw [if_neg ev]
      exact FIN U3 1 FF g3 (k 49 0 (by decide)) (k 51 0 (by decide)) (fun z => k 53 z (by decide)) (fun hl => ⟨fun q => (RS hl).mp ⟨ev, q.2⟩, fun q => ⟨by decide, ((RS hl).mpr q).2⟩⟩)
/-- how often, and the "if" -/
theorem go_end (hj : sn ≤ p) (hM : cl_tm 1 cd vl m m' 1 τ) (hT : (cd m' ≠ 4 ∧ j = m' ∧ T = fun _ => some 1) ∨ (cd m' = 4 ∧ m' + 1 < j ∧ D_test 1 cd vl 8 (m' + 1) j T)) (m0 : 0 ≤ m) (hx : gx cd vl w a B U) (hg : U a 22 0 = B + m) (hw : ∀ k, -2147483648 ≤ w k ∧ w k ≤ 2147483647) : ∃ V' : dV, f_X12_goesAlong_76b (U, sn, a, live, p) = Sum.inr (V', 0) ∧ ga_fr a U V' ∧ V' a 22 0 = B + (j + 1) ∧ V' a 49 0 = τ ∧ V' a 51 0 = U a 51 0 ∧ (∀ z, V' a 53 z = U a 53 z) ∧ (live ≠ 0 → (V' a 52 0 ≠ 0 ↔ so (T w))) := by
  rw [f_X12_goesAlong_76e]
  unfold f_X12_goesAlong_76c
  rw [if_pos hj, bq]
  have F1 : ga_fr a U (dv_u U a 49 0 1) := ga_u (by decide)
  have x1 := gx_f hx F1
  have g1 : dv_u U a 49 0 1 a 22 0 = B + m := by rw [u_j (by decide)]; exact hg
  rcases hM with ⟨b1, rfl, rfl⟩ | ⟨-, b2, b3, b4, rfl, rfl⟩
  · rw [dv_bn2 (q_pass0 (gx_ex x1) m0 g1 (fun q => b1 ⟨rfl, q⟩)), if_pos rfl]
    obtain ⟨V', l1, l2, l3, l4, l5, l6, l7⟩ := go_184 (live := live) hT m0 x1 g1 hw
    exact ⟨V', l1, ga_t F1 l2, l3, by rw [l4, u_e], by rw [l5, u_j (by decide)], fun z => by rw [l6, u_j (by decide)], l7⟩
  · rw [dv_bn2 (q_pass1 (gx_ex x1) m0 g1 b2), if_neg (by decide), bq, u_e, bq, bq, bq, bq, bq, bq]
    have n2 : ∀ z, dv_u (dv_u U a 49 0 1) a 22 0 (B + (m + 1)) a 2 z = U a 2 z := fun z => by rw [u_j (by decide), u_j (by decide)]
    have e : vl (m + 1) = U a 2 (2880 + (B + (m + 1))) := hx.2.1 _ (by omega)
    rw [n2, ← e]
    have F2 : ga_fr a U (dv_u (dv_u (dv_u (dv_u U a 49 0 1) a 22 0 (B + (m + 1))) a 49 0 (vl (m + 1))) a 22 0 (dv_u (dv_u (dv_u U a 49 0 1) a 22 0 (B + (m + 1))) a 49 0 (vl (m + 1)) a 22 0 + 1)) := ga_t (ga_t (ga_t F1 (ga_u (by decide))) (ga_u (by decide))) (ga_u (by decide))
    obtain ⟨V', l1, l2, l3, l4, l5, l6, l7⟩ := go_184 (live := live) hT (by omega) (gx_f hx F2) (by rw [u_e, u_j (by decide), u_e]; omega) hw
    exact ⟨V', l1, ga_t F2 l2, l3, by rw [l4, u_j (by decide), u_e], by rw [l5, u_j (by decide), u_j (by decide), u_j (by decide), u_j (by decide)], fun z => by rw [l6, u_j (by decide), u_j (by decide), u_j (by decide), u_j (by decide)], l7⟩
end QTD
section QTE
variable {V V' V0 V1 V2 U U1 W W' W0 W1 W2 : dV} {a c z t k s p q x y n u o r B P i j m m' live ns τ q2 q3 q4 q5 : Int} {A : Nat → Int} {w cd vl X M g : Int → Int} {S T S0 S1 S2 : dn}
/-- the sums of a clause of orders -/
def os (cd vl : Int → Int) (ns i m : Int) (X : Int → Int) (q2 q3 q4 q5 : Int) (S0 S1 S2 : dn) : Prop := (ns = 0 ∧ m = i ∧ q3 = q2 ∧ q4 = q2 ∧ q5 = q2) ∨ (ns = 1 ∧ i < m ∧ q4 = q3 ∧ q5 = q3 ∧ D_sum 1 cd vl 8 i m S0 ∧ K_seg X q2 q3 S0 19) ∨ (ns = 3 ∧ ∃ (j1 j2 : Int), (i < j1 ∧ j1 < j2 ∧ j2 < m) ∧ D_sum 1 cd vl 8 i j1 S0 ∧ D_sum 1 cd vl 8 (j1 + 1) j2 S1 ∧ D_sum 1 cd vl 8 (j2 + 1) m S2 ∧ K_seg X q2 q3 S0 19 ∧ K_seg X q3 q4 S1 19 ∧ K_seg X q4 q5 S2 19)
theorem os_of (h : cl_sm 1 cd vl ns i m X q2 q3 q4 q5) : ∃ S0 S1 S2 : dn, os cd vl ns i m X q2 q3 q4 q5 S0 S1 S2 := by
  rcases h with h | ⟨h1, h2, h3, h4, S, h5, h6⟩ | ⟨h1, j1, j2, A0, A1, A2, l, D0, -, D1, -, D2, K0, K1, K2⟩
  · exact ⟨fun _ => none, fun _ => none, fun _ => none, Or.inl h⟩
  · exact ⟨S, fun _ => none, fun _ => none, Or.inr (Or.inl ⟨h1, h2, h3, h4, h5, h6⟩)⟩
  · exact ⟨A0, A1, A2, Or.inr (Or.inr ⟨h1, j1, j2, l, D0, D1, D2, K0, K1, K2⟩)⟩
/-- all are well -/
def smw (w : Int → Int) (ns : Int) (S0 S1 S2 : dn) (g : Int → Int) : Prop := ns = 0 ∨ (ns = 1 ∧ S0 w = some (g 0)) ∨ (ns = 3 ∧ S0 w = some (g 0) ∧ S1 w = some (g 1) ∧ S2 w = some (g 2))
def brk (w : Int → Int) (ns : Int) (S0 S1 S2 : dn) : Prop := (ns = 1 ∧ S0 w = none) ∨ (ns = 3 ∧ (S0 w = none ∨ S1 w = none ∨ S2 w = none))
theorem smw_n (h : smw w ns S0 S1 S2 g) : ¬ brk w ns S0 S1 S2 := by
  intro k
  rcases h with h | ⟨h1, h2⟩ | ⟨h1, h2, h3, h4⟩
  · rcases k with ⟨k, -⟩ | ⟨k, -⟩ <;> omega
  · rcases k with ⟨-, k⟩ | ⟨k, -⟩
    · rw [h2] at k; cases k
    · omega
  · rcases k with ⟨k, -⟩ | ⟨-, k | k | k⟩
    · omega
    · rw [h2] at k; cases k
    · rw [h3] at k; cases k
    · rw [h4] at k; cases k
/-- the class's sums -/
theorem c_sumsE {V0 : dV} (hV : kq_fr r V0 V) (c0 : 0 ≤ c) (c1 : c ≤ 11) (j0 : 0 ≤ j) (j3 : j ≤ 3) (hx : x ≠ r) (h : ∀ k, j ≤ k → k ≤ 2 → V0 x 1 (c * 8 + (2 + k)) = V0 x 1 (c * 8 + (2 + k + 1))) : ∃ V' : dV, dv_lp f_X6_reckonSums_2b (V, r, x, c, j) = (V', 1) ∧ kq_fr r V0 V' ∧ ∀ z, z < j → V' r 2 z = V r 2 z := by
  refine dv_inv (P := fun q => ∃ (U : dV) (i : Int), q = (U, r, x, c, i) ∧ j ≤ i ∧ i ≤ 3 ∧ kq_fr r V0 U ∧ ∀ z, z < j → U r 2 z = V r 2 z) (Q := fun q => ∃ V' : dV, q = (V', 1) ∧ kq_fr r V0 V' ∧ ∀ z, z < j → V' r 2 z = V r 2 z) (m := fun q => (3 - q.2.2.2.2).toNat) ?_ _ ⟨V, j, rfl, by omega, j3, hV, fun _ _ => rfl⟩
  rintro q ⟨U, i, rfl, ij, i3, hU, hz⟩
  by_cases e : 3 ≤ i
  · rw [f_X6_reckonSums_2e]
    unfold f_X6_reckonSums_2c
    rw [if_pos e]
    exact Or.inr ⟨_, rfl, U, rfl, hU, hz⟩
  · have ux : ∀ z, U x 1 z = V0 x 1 z := fun z => hU x 1 z (fun q => hx q.1)
    rw [c_sum0 c0 c1 (by omega) (by omega) (by rw [ux, ux]; exact h i ij (by omega))]
    exact Or.inl ⟨_, rfl, ⟨_, i + 1, rfl, by omega, by omega, kq_t hU kq_2, fun z hz' => by rw [u_i (by omega)]; exact hz z hz'⟩, by dsimp only; omega⟩
theorem c_sumsO (c0 : 0 ≤ c) (c1 : c ≤ 11) (hs : os cd vl ns i m (V x 0) (V x 1 (c * 8 + 2)) (V x 1 (c * 8 + 3)) (V x 1 (c * 8 + 4)) (V x 1 (c * 8 + 5)) S0 S1 S2) (h5 : V x 1 (c * 8 + 5) ≤ V x 2 0) (hw : kw_ok V r w) (hx : x ≠ r) : ∃ (V' : dV) (y : Int), f_X6_reckonSums V r x c = (V', y) ∧ kq_fr r V V' ∧ (y = 1 ∧ smw w ns S0 S1 S2 (V' r 2) ∨ y = 0 ∧ brk w ns S0 S1 S2) := by
  unfold f_X6_reckonSums
  have ks : ∀ {k : Int}, k = 0 ∨ k = 1 ∨ k = 2 → (V x 1 (c * 8 + (2 + k)) = V x 1 (c * 8 + (2 + k + 1)) ↔ (k = 0 ∧ V x 1 (c * 8 + 2) = V x 1 (c * 8 + 3)) ∨ (k = 1 ∧ V x 1 (c * 8 + 3) = V x 1 (c * 8 + 4)) ∨ (k = 2 ∧ V x 1 (c * 8 + 4) = V x 1 (c * 8 + 5))) := by
    intro k hk
    rcases hk with rfl | rfl | rfl <;> simp
  rcases hs with ⟨rfl, -, a3, a4, a5⟩ | ⟨rfl, -, a4, a5, D0, K0⟩ | ⟨rfl, j1, j2, l, D0, D1, D2, K0, K1, K2⟩
  · obtain ⟨V', e1, f1, -⟩ := c_sumsE (V0 := V) (j := 0) kq_r c0 c1 (by decide) (by decide) hx (fun k k0 k2 => (ks (by omega)).mpr (by omega))
    exact ⟨V', 1, e1, f1, Or.inl ⟨rfl, Or.inl rfl⟩⟩
  · have l0 := K0.1
    obtain ⟨U, f1, -, ⟨v, hv, u0, e1⟩ | ⟨hv, e1⟩⟩ := c_sum1 (V := V) (r := r) (x := x) (c := c) (j := 0) (h := 19) (w := w) c0 c1 (by decide) (by decide) K0 (by decide) (by show V x 1 (c * 8 + 3) ≤ _; omega) hw hx (D_sum_in D0)
    · obtain ⟨V', e2, f2, z2⟩ := c_sumsE (V0 := V) (j := 0 + 1) f1 c0 c1 (by decide) (by decide) hx (fun k k0 k2 => (ks (by omega)).mpr (by omega))
      exact ⟨V', 1, by rw [dv_lp_s e1]; exact e2, f2, Or.inl ⟨rfl, Or.inr (Or.inl ⟨rfl, by rw [z2 0 (by decide), u0, hv]⟩)⟩⟩
    · exact ⟨U, 0, dv_lp_e e1, f1, Or.inr ⟨rfl, Or.inl ⟨rfl, hv⟩⟩⟩
  · have l0 := K0.1
    have l1 := K1.1
    have l2 := K2.1
    have AG : ∀ {U : dV}, kq_fr r V U → (∀ m z, U x m z = V x m z) ∧ kw_ok U r w := fun f => ⟨fun m z => f x m z (fun q => hx q.1), kw_f hw f⟩
    obtain ⟨U, f1, -, ⟨v, hv, u0, e1⟩ | ⟨hv, e1⟩⟩ := c_sum1 (V := V) (r := r) (x := x) (c := c) (j := 0) (h := 19) (w := w) c0 c1 (by decide) (by decide) K0 (by decide) (by show V x 1 (c * 8 + 3) ≤ _; omega) hw hx (D_sum_in D0)
    · obtain ⟨ux, uw⟩ := AG f1
      have eX : U x 0 = V x 0 := funext fun z => ux 0 z
      obtain ⟨U2, f2, g2, ⟨v1, hv1, u1, e2⟩ | ⟨hv1, e2⟩⟩ := c_sum1 (V := U) (r := r) (x := x) (c := c) (j := 0 + 1) (h := 19) (w := w) (S := S1) c0 c1 (by decide) (by decide) (by rw [eX, ux, ux]; exact K1) (by decide) (by rw [ux, ux]; show V x 1 (c * 8 + 4) ≤ _; omega) uw hx (D_sum_in D1)
      · have f12 := kq_t f1 f2
        obtain ⟨ux2, uw2⟩ := AG f12
        have eX2 : U2 x 0 = V x 0 := funext fun z => ux2 0 z
        obtain ⟨U3, f3, g3, ⟨v2, hv2, u2, e3⟩ | ⟨hv2, e3⟩⟩ := c_sum1 (V := U2) (r := r) (x := x) (c := c) (j := 0 + 1 + 1) (h := 19) (w := w) (S := S2) c0 c1 (by decide) (by decide) (by rw [eX2, ux2, ux2]; exact K2) (by decide) (by rw [ux2, ux2]; exact h5) uw2 hx (D_sum_in D2)
        · obtain ⟨V', e4, f4, z4⟩ := c_sumsE (V0 := V) (j := 0 + 1 + 1 + 1) (kq_t f12 f3) c0 c1 (by decide) (by decide) hx (fun k k0 k2 => absurd k0 (by omega))
          refine ⟨V', 1, by rw [dv_lp_s e1, dv_lp_s e2, dv_lp_s e3]; exact e4, f4, Or.inl ⟨rfl, Or.inr (Or.inr ⟨rfl, ?_, ?_, ?_⟩)⟩⟩
          · rw [z4 0 (by decide), g3 0 (by decide), g2 0 (by decide), u0, hv]
          · rw [z4 1 (by decide), g3 1 (by decide), hv1]
            have u1 : U2 r 2 1 = v1 := u1
            rw [u1]
          · rw [z4 2 (by decide), hv2]
            have u2 : U3 r 2 2 = v2 := u2
            rw [u2]
        · exact ⟨U3, 0, by rw [dv_lp_s e1, dv_lp_s e2]; exact dv_lp_e e3, kq_t f12 f3, Or.inr ⟨rfl, Or.inr ⟨rfl, Or.inr (Or.inr hv2)⟩⟩⟩
      · exact ⟨U2, 0, by rw [dv_lp_s e1]; exact dv_lp_e e2, kq_t f1 f2, Or.inr ⟨rfl, Or.inr ⟨rfl, Or.inr (Or.inl hv1)⟩⟩⟩
    · exact ⟨U, 0, dv_lp_e e1, f1, Or.inr ⟨rfl, Or.inr ⟨rfl, Or.inl hv⟩⟩⟩
/-- the reference's sums -/
theorem m_sumsO (hs : os cd vl ns i m X q2 q3 q4 q5 S0 S1 S2) (i0 : 0 ≤ i) (hx : gx cd vl w a B U) (hg : U a 22 0 = B + i) (h1 : U a 51 0 ≠ 0) (hw : ∀ k, -2147483648 ≤ w k ∧ w k ≤ 2147483647) : ∃ V' : dV, dv_lp f_X12_goesAlong_76b (U, ns, a, live, 0) = dv_lp f_X12_goesAlong_76b (V', ns, a, live, ns) ∧ ga_fr a U V' ∧ V' a 22 0 = B + m ∧ (live ≠ 0 → (V' a 51 0 ≠ 0 ∧ smw w ns S0 S1 S2 (V' a 53)) ∨ (V' a 51 0 = 0 ∧ brk w ns S0 S1 S2)) := by
  rcases hs with ⟨rfl, rfl, -⟩ | ⟨rfl, l, -, -, D0, -⟩ | ⟨rfl, j1, j2, l, D0, D1, D2, -⟩
  · exact ⟨U, rfl, ga_r, hg, fun _ => Or.inl ⟨h1, Or.inl rfl⟩⟩
  · obtain ⟨V1, e1, f1, g1, -, r1⟩ := go_76 (sn := 1) (j := 0) (live := live) (by decide) D0 i0 hx hg hw
    refine ⟨V1, dv_lp_s e1, f1, g1, fun hl => ?_⟩
    rcases r1 hl with ⟨k1, k2⟩ | ⟨v, k1, k2, k3⟩
    · exact Or.inr ⟨k2, Or.inl ⟨rfl, k1⟩⟩
    · exact Or.inl ⟨fun q => h1 (k3.mp q), Or.inr (Or.inl ⟨rfl, by rw [k1, k2]⟩)⟩
  · obtain ⟨V1, e1, f1, g1, -, r1⟩ := go_76 (sn := 3) (j := 0) (live := live) (by decide) D0 i0 hx hg hw
    obtain ⟨V2, e2, f2, g2, z2, r2⟩ := go_76 (sn := 3) (j := 0 + 1) (live := live) (by decide) D1 (by omega) (gx_f hx f1) (by rw [if_neg (by decide), g1]; omega) hw
    have f12 := ga_t f1 f2
    obtain ⟨V3, e3, f3, g3, z3, r3⟩ := go_76 (sn := 3) (j := 0 + 1 + 1) (live := live) (by decide) D2 (by omega) (gx_f hx f12) (by rw [if_neg (by decide), g2]; omega) hw
    refine ⟨V3, by rw [dv_lp_s e1, dv_lp_s e2, dv_lp_s e3]; rfl, ga_t f12 f3, g3, fun hl => ?_⟩
    rcases r1 hl with ⟨k1, k2⟩ | ⟨v, k1, k2, k3⟩
    · refine Or.inr ⟨?_, Or.inr ⟨rfl, Or.inl k1⟩⟩
      have h2 : V2 a 51 0 = 0 := by
        rcases r2 hl with ⟨-, l2⟩ | ⟨-, -, -, l3⟩
        · exact l2
        · exact l3.mpr k2
      rcases r3 hl with ⟨-, l2⟩ | ⟨-, -, -, l3⟩
      · exact l2
      · exact l3.mpr h2
    · rcases r2 hl with ⟨l1, l2⟩ | ⟨v1, l1, l2, l3⟩
      · refine Or.inr ⟨?_, Or.inr ⟨rfl, Or.inr (Or.inl l1)⟩⟩
        rcases r3 hl with ⟨-, m2⟩ | ⟨-, -, -, m3⟩
        · exact m2
        · exact m3.mpr l2
      · rcases r3 hl with ⟨m1, m2⟩ | ⟨v2, m1, m2, m3⟩
        · exact Or.inr ⟨m2, Or.inr ⟨rfl, Or.inr (Or.inr m1)⟩⟩
        · refine Or.inl ⟨fun q => h1 (k3.mp (l3.mp (m3.mp q))), Or.inr (Or.inr ⟨rfl, ?_, ?_, ?_⟩)⟩
          · rw [z3 0 (by decide), z2 0 (by decide), k1, k2]
          · have l2 : V2 a 53 1 = v1 := l2
            rw [z3 1 (by decide), l1, l2]
          · have m2 : V3 a 53 2 = v2 := m2
            rw [m1, m2]
/-- a clause of orders: its kind, how often, its sums and its "if" -/
def oc (cd vl : Int → Int) (i j : Int) (X M : Int → Int) (s ns : Int) (S0 S1 S2 T : dn) : Prop := (0 ≤ M 0 ∧ M 0 ≤ 3) ∧ (cd i = if M 0 = 0 then 21 else 23 + M 0) ∧ ns = (if M 0 = 0 then 3 else if M 0 = 1 then 1 else 0) ∧ M 5 ≤ s ∧ M 7 ≤ s ∧ ∃ m m', i < m ∧ m ≤ m' ∧ m' ≤ j ∧ os cd vl ns (i + 1) m X (M 2) (M 3) (M 4) (M 5) S0 S1 S2 ∧ cl_tm 1 cd vl m m' 1 (M 1) ∧ ((cd m' ≠ 4 ∧ j = m' ∧ M 6 = M 7 ∧ T = fun _ => some 1) ∨ (cd m' = 4 ∧ m' + 1 < j ∧ D_test 1 cd vl 8 (m' + 1) j T ∧ K_seg X (M 6) (M 7) T 20))
theorem oc_of (h : cl_ok 1 cd vl i j X M s) : ∃ (ns : Int) (S0 S1 S2 T : dn), oc cd vl i j X M s ns S0 S1 S2 T := by
  rcases h with ⟨h1, -⟩ | ⟨-, h2, h3, m, m', h4, h5, ⟨h6, h7⟩, h8⟩
  · exact absurd h1 (by decide)
  · obtain ⟨S0, S1, S2, hs⟩ := os_of h4
    have l1 : i < m := by
      rcases hs with ⟨-, a2, -⟩ | ⟨-, a2, -⟩ | ⟨-, j1, j2, l, -⟩ <;> omega
    have l2 : m ≤ m' := by
      rcases h5 with ⟨-, b2, -⟩ | ⟨-, -, -, -, b5, -⟩ <;> omega
    have l3 : m' ≤ j := by
      rcases h6 with ⟨-, b2, -⟩ | ⟨-, b2, -⟩ <;> omega
    rcases h6 with ⟨b1, b2, b3⟩ | ⟨b1, b2, T, b3, b4⟩
    · exact ⟨_, S0, S1, S2, _, h2, h3, rfl, h8, h7, m, m', l1, l2, l3, hs, h5, Or.inl ⟨b1, b2, b3, rfl⟩⟩
    · exact ⟨_, S0, S1, S2, T, h2, h3, rfl, h8, h7, m, m', l1, l2, l3, hs, h5, Or.inr ⟨b1, b2, b3, b4⟩⟩
theorem oc_T (h : oc cd vl i j X M s ns S0 S1 S2 T) : cl_T X (M 6) (M 7) T := by
  obtain ⟨-, -, -, -, -, m, m', -, -, -, -, -, h6⟩ := h
  rcases h6 with ⟨-, -, b, c⟩ | ⟨-, -, -, d⟩
  · exact Or.inl ⟨b, c⟩
  · exact Or.inr d
/-- what going along changes in all -/
def go_fr (a : Int) (V V' : dV) : Prop := ∀ b m z, ¬ (b = a ∧ ((22 ≤ m ∧ m ≤ 25) ∨ (49 ≤ m ∧ m ≤ 53))) → V' b m z = V b m z
theorem go_t (h : go_fr a V V') (k : go_fr a V' V1) : go_fr a V V1 := fun b m z q => (k b m z q).trans (h b m z q)
theorem go_u {m : Nat} {i : Int} (hm : (22 ≤ m ∧ m ≤ 25) ∨ (49 ≤ m ∧ m ≤ 53)) : go_fr a V (dv_u V a m i y) := fun b m' z q => by
  unfold dv_u; rw [if_neg (fun e => q ⟨e.1, by omega⟩)]
theorem go_a (h : ga_fr a V V') : go_fr a V V' := fun b m z q => h b m z (fun e => q ⟨e.1, by omega⟩)
/-- the reference goes along a clause -/
theorem m_goes (h : oc cd vl i j X M s ns S0 S1 S2 T) (i0 : 0 ≤ i) (hc : ∀ i, 0 ≤ i → cd i = if B + i < P then W a 2 (80 + (B + i)) else 0) (hv : ∀ i, 0 ≤ i → vl i = W a 2 (2880 + (B + i))) (ho : ow a w W) (h48 : W a 48 0 = B + i) (hw : ∀ k, -2147483648 ≤ w k ∧ w k ≤ 2147483647) : ∃ W' : dV, f_X12_goesAlong W a P live = (W', 0) ∧ go_fr a W W' ∧ W' a 22 0 = B + (j + 1) ∧ W' a 50 0 = cd i ∧ W' a 49 0 = M 1 ∧ (live ≠ 0 → (W' a 52 0 ≠ 0 ↔ so (T w)) ∧ ((W' a 51 0 ≠ 0 ∧ smw w ns S0 S1 S2 (W' a 53)) ∨ (W' a 51 0 = 0 ∧ brk w ns S0 S1 S2))) := by
  obtain ⟨h0, hcd, hns, -, -, m, m', l1, l2, l3, hs, hM, hT⟩ := h
  have hT' : (cd m' ≠ 4 ∧ j = m' ∧ T = fun _ => some 1) ∨ (cd m' = 4 ∧ m' + 1 < j ∧ D_test 1 cd vl 8 (m' + 1) j T) := by
    rcases hT with ⟨b1, b2, -, b4⟩ | ⟨b1, b2, b3, -⟩
    · exact Or.inl ⟨b1, b2, b4⟩
    · exact Or.inr ⟨b1, b2, b3⟩
  -- the start
  have F3 : go_fr a W (dv_u (dv_u (dv_u W a 25 0 1) a 23 0 P) a 22 0 (B + i)) := go_t (go_t (go_u (by decide)) (go_u (by decide))) (go_u (by decide))
  have x3 : gx cd vl w a B (dv_u (dv_u (dv_u W a 25 0 1) a 23 0 P) a 22 0 (B + i)) := by
    have k2 : ∀ z, dv_u (dv_u (dv_u W a 25 0 1) a 23 0 P) a 22 0 (B + i) a 2 z = W a 2 z := fun z => by rw [u_j (by decide), u_j (by decide), u_j (by decide)]
    refine ⟨fun i hi => ?_, fun i hi => ?_, ?_, ow_c ho k2 (F3 a 27 0 (fun q => absurd q.2 (by decide))) (F3 a 28 0 (fun q => absurd q.2 (by decide)))⟩
    · rw [k2, u_j (by decide), u_e]; exact hc i hi
    · rw [k2]; exact hv i hi
    · rw [u_j (by decide), u_j (by decide), u_e]
  have g3 : dv_u (dv_u (dv_u W a 25 0 1) a 23 0 P) a 22 0 (B + i) a 22 0 = B + i := u_e
  have n48 : dv_u (dv_u W a 25 0 1) a 23 0 P a 48 0 = B + i := by rw [u_j (by decide), u_j (by decide)]; exact h48
  have E : ∀ Z, (if cd i ≠ 21 then (if cd i ≠ 24 then f_X12_goesAlong_72 (dv_u (dv_u (dv_u (dv_u (dv_u (dv_u W a 25 0 1) a 23 0 P) a 22 0 (B + i)) a 50 0 (cd i)) a 22 0 (B + i + 1)) a 51 0 1) a live 0 else f_X12_goesAlong_72 (dv_u (dv_u (dv_u (dv_u (dv_u (dv_u W a 25 0 1) a 23 0 P) a 22 0 (B + i)) a 50 0 (cd i)) a 22 0 (B + i + 1)) a 51 0 1) a live 1) else f_X12_goesAlong_72 (dv_u (dv_u (dv_u (dv_u (dv_u (dv_u W a 25 0 1) a 23 0 P) a 22 0 (B + i)) a 50 0 (cd i)) a 22 0 (B + i + 1)) a 51 0 1) a live 3) = Z → f_X12_goesAlong W a P live = Z := by
    intro Z hZ
    unfold f_X12_goesAlong
    rw [bq, bq, bq, n48, bq, bq, dv_bn2 (q_codeAt (gx_ex x3) i0 g3), bq, bq, u_j (show (22 : Nat) ≠ 50 by decide), g3, bq, bq, bq, bq, u_j (show (50 : Nat) ≠ 51 by decide), u_j (show (50 : Nat) ≠ 22 by decide), u_e, bq]
    exact hZ
  generalize dv_u (dv_u (dv_u W a 25 0 1) a 23 0 P) a 22 0 (B + i) = U3 at F3 x3 g3 E
  have F6 : go_fr a W (dv_u (dv_u (dv_u U3 a 50 0 (cd i)) a 22 0 (B + i + 1)) a 51 0 1) := go_t (go_t (go_t F3 (go_u (by decide))) (go_u (by decide))) (go_u (by decide))
  have x6 : gx cd vl w a B (dv_u (dv_u (dv_u U3 a 50 0 (cd i)) a 22 0 (B + i + 1)) a 51 0 1) := by
    have x4 : gx cd vl w a B (dv_u U3 a 50 0 (cd i)) := by
      obtain ⟨y1, y2, y3, y4⟩ := x3
      have k2 : ∀ z, dv_u U3 a 50 0 (cd i) a 2 z = U3 a 2 z := fun z => u_j (by decide)
      refine ⟨fun i hi => ?_, fun i hi => ?_, ?_, ow_c y4 k2 (u_j (by decide)) (u_j (by decide))⟩
      · rw [k2, u_j (by decide)]; exact y1 i hi
      · rw [k2]; exact y2 i hi
      · rw [u_j (by decide)]; exact y3
    exact gx_f x4 (ga_t (ga_u (by decide)) (ga_u (by decide)))
  have g6 : dv_u (dv_u (dv_u U3 a 50 0 (cd i)) a 22 0 (B + i + 1)) a 51 0 1 a 22 0 = B + (i + 1) := by rw [u_j (by decide), u_e]; omega
  have o6 : dv_u (dv_u (dv_u U3 a 50 0 (cd i)) a 22 0 (B + i + 1)) a 51 0 1 a 51 0 ≠ 0 := by rw [u_e]; decide
  have c6 : dv_u (dv_u (dv_u U3 a 50 0 (cd i)) a 22 0 (B + i + 1)) a 51 0 1 a 50 0 = cd i := by rw [u_j (by decide), u_j (by decide), u_e]
  generalize dv_u (dv_u (dv_u U3 a 50 0 (cd i)) a 22 0 (B + i + 1)) a 51 0 1 = U6 at F6 x6 g6 o6 c6 E
  have ns0 : 0 ≤ ns := by rw [hns]; split; decide; split <;> decide
  obtain ⟨U7, e7, f7, g7, r7⟩ := m_sumsO (live := live) hs (by omega) x6 g6 o6 hw
  obtain ⟨U8, e8, f8, g8, t8, s8, z8, r8⟩ := go_end (live := live) (sn := ns) (p := ns) (Int.le_refl _) hM hT' (by omega) (gx_f x6 f7) g7 hw
  refine ⟨U8, E _ ?_, go_t F6 (go_a (ga_t f7 f8)), g8, by rw [(ga_t f7 f8) a 50 0 (fun q => absurd q.2 (by decide)), c6], t8, fun hl => ⟨r8 hl, ?_⟩⟩
  · have LP : f_X12_goesAlong_72 U6 a live ns = (U8, 0) := by
      unfold f_X12_goesAlong_72
      rw [e7]
      exact dv_lp_e e8
    by_cases e0 : M 0 = 0
    · rw [if_pos e0] at hcd hns
      rw [if_neg (fun q => q hcd), ← hns]; exact LP
    · rw [if_neg e0] at hcd hns
      rw [if_pos (by omega)]
      by_cases e1 : M 0 = 1
      · rw [if_pos e1] at hns
        rw [if_neg (by omega), ← hns]; exact LP
      · rw [if_neg e1] at hns
        rw [hns] at LP
        rw [if_pos (by omega)]; exact LP
  · rw [s8, show U8 a 53 = U7 a 53 from funext z8]
    exact r7 hl
end QTE
section QTF
variable {V V' V0 V1 V2 U U1 W W' W0 W1 W2 : dV} {a c z t k s p q x y n u o r B P i j m m' live ns D zz1 zz2 v : Int} {A : Nat → Int} {w cd vl X M g : Int → Int} {S T S0 S1 S2 : dn}
/-- the clerk's words, and what of the reference orders use -/
theorem RR_oc (h : RR A a V W) (f : ∀ b m z, ¬ (b = A 12 ∧ m ≤ 3) → V' b m z = V b m z) (g : ∀ b m z, ¬ (b = a ∧ ((22 ≤ m ∧ m ≤ 28) ∨ (48 ≤ m ∧ m ≤ 53))) → W' b m z = W b m z) : RR A a V' W' := by
  have hA := h.1
  have F : ∀ (q : Nat) (m : Nat) (z : Int), q < 38 → q ≠ 12 → V' (A q) m z = V (A q) m z := fun q m z hq hn => f _ m z (fun w => inj_n hA hq (by decide) hn w.1)
  refine RR_idle h (fun i m z hi hm hL => F i m z hi (fun w => ?_)) (fun m z hm => g a m z (fun w => ?_)) (fun z _ => F 14 1 z (by decide) (by decide)) (fun m z _ _ => F 4 m z (by decide) (by decide)) (fun z => ⟨F 15 0 z (by decide) (by decide), F 15 4 z (by decide) (by decide)⟩) (fun z => g a 2 z (fun q => absurd q.2 (by omega))) (fun z => g a 31 z (fun q => absurd q.2 (by omega))) (g a 33 0 (fun q => absurd q.2 (by omega)))
  · subst w
    cases hL
  · unfold M_a at hm
    simp only [Bool.or_eq_false_iff, Bool.and_eq_false_iff, beq_eq_false_iff_ne, decide_eq_false_iff_not, ne_eq] at hm
    omega
def sml (v : Int) : Int := if v < 0 then -1 else if v ≤ 1000000 then v else -1
theorem q_small (h0 : -2147483648 ≤ v) (h1 : v ≤ 2147483647) : f_X12_small V v = (sml v, ()) := by
  unfold f_X12_small sml
  rw [bq]
  by_cases e : v < 0
  · rw [if_pos e, if_pos (by have := mt lcmp_ge.mp (show ¬ 0 ≤ v by omega); omega)]
  · rw [if_neg e, if_neg (by have := lcmp_ge.mpr (show (0 : Int) ≤ v by omega); omega), bq]
    by_cases e1 : v ≤ 1000000
    · rw [if_pos e1, if_pos (lcmp_le.mpr e1), bq, dv_l2i_ok (by omega) (by omega)]
    · rw [if_neg e1, if_neg (fun q => e1 (lcmp_le.mp q))]
theorem sml_in (h0 : 0 ≤ v) (h1 : v ≤ 11) : sml v = v := by unfold sml; rw [if_neg (by omega), if_pos (by omega)]
theorem sml_out {k : Int} (k1 : 0 ≤ k ∧ k ≤ 12) (h : ¬ (0 ≤ v ∧ v < k)) : ¬ (0 ≤ sml v ∧ sml v < k) := by
  unfold sml
  split
  · omega
  · split <;> omega
theorem c_lay1 (h : RR A a V W) (hn : ¬ ((0 ≤ x ∧ x ≤ 11) ∧ 0 ≤ y ∧ y ≤ 11)) : f_X11_doLay V (A 0) c x y = (V, -1) := by
  obtain ⟨g0, g1, -⟩ := RR_G h
  unfold f_X11_doLay
  rw [bq, g0, bq, g1, dv_bn2 c_onGrid]
  by_cases hx : 0 ≤ x ∧ x ≤ 11
  · rw [if_pos hx, if_neg (by decide), dv_bn2 c_onGrid, if_neg (fun q => hn ⟨hx, q⟩), if_neg (fun q => q rfl)]
  · rw [if_neg hx, if_pos rfl]
theorem c_lay2 (h : RR A a V W) (hx : 0 ≤ x ∧ x ≤ 11) (hy : 0 ≤ y ∧ y ≤ 11) (hn : ¬ (0 ≤ c ∧ c < V (A 4) 7 0)) : f_X11_doLay V (A 0) c x y = (V, -2) := by
  obtain ⟨g0, g1, -⟩ := RR_G h
  have gV : f_X11_onGrid V x = (1, ()) ∧ f_X11_onGrid V y = (1, ()) := ⟨by rw [c_onGrid, if_pos hx], by rw [c_onGrid, if_pos hy]⟩
  have hV : f_X1_has V (A 4) c = (0, ()) := by rw [q_has, if_neg hn]
  unfold f_X11_doLay
  rw [bq, g0, bq, g1, dv_bn2 gV.1, if_neg (by decide), dv_bn2 gV.2, if_pos (by decide), dv_bn2 hV, if_neg (fun q => q rfl)]
theorem c_laysml (h : RR A a V W) : f_X11_doLay V (A 0) (sml c) (sml x) (sml y) = f_X11_doLay V (A 0) c x y := by
  have n9 := (RR_n h).1.1.1
  by_cases hxy : (0 ≤ x ∧ x ≤ 11) ∧ 0 ≤ y ∧ y ≤ 11
  · rw [sml_in hxy.1.1 hxy.1.2, sml_in hxy.2.1 hxy.2.2]
    by_cases hc : 0 ≤ c ∧ c < V (A 4) 7 0
    · rw [sml_in hc.1 (by omega)]
    · rw [c_lay2 h hxy.1 hxy.2 hc, c_lay2 h hxy.1 hxy.2 (sml_out (by omega) hc)]
  · rw [c_lay1 h hxy, c_lay1 h]
    intro q
    by_cases hx : 0 ≤ x ∧ x < 12
    · have hy : ¬ (0 ≤ y ∧ y < 12) := fun w => hxy ⟨by omega, by omega⟩
      exact sml_out (by decide) hy (by omega)
    · exact sml_out (by decide) hx (by omega)
theorem c_rollsml (h : RR A a V W) : f_X11_doRoll V (A 0) (sml c) = f_X11_doRoll V (A 0) c := by
  obtain ⟨g0, g1, -⟩ := RR_G h
  have n9 := (RR_n h).1.1.1
  have N : ∀ c : Int, ¬ (0 ≤ c ∧ c < V (A 4) 7 0) → f_X11_doRoll V (A 0) c = (V, -2) := fun c hn => by
    have hV : f_X1_has V (A 4) c = (0, ()) := by rw [q_has, if_neg hn]
    unfold f_X11_doRoll
    rw [bq, g0, bq, g1, dv_bn2 hV, if_neg (fun q => q rfl)]
  by_cases hc : 0 ≤ c ∧ c < V (A 4) 7 0
  · rw [sml_in hc.1 (by omega)]
  · rw [N c hc, N _ (sml_out (by omega) hc)]
/-- the words "done" and "latest" -/
def wd (A : Nat → Int) (a : Int) (V W : dV) (D : Int) : Prop := V (A 12) 1 1 = W a 27 0 ∧ V (A 12) 1 2 = W a 28 0 ∧ (0 ≤ W a 27 0 ∧ W a 27 0 ≤ D) ∧ -1 ≤ W a 28 0 ∧ W a 28 0 ≤ 99
/-- what a run may change -/
def OF (A : Nat → Int) (a : Int) (V W V' W' : dV) : Prop := (∀ b m z, ¬ (b = A 4 ∧ (m = 2 ∨ m = 3 ∨ m = 4 ∨ m = 5 ∨ m = 10)) → ¬ (b = A 14 ∧ m ≤ 3) → ¬ (b = A 15 ∧ (m = 0 ∨ m = 4)) → ¬ (b = A 12 ∧ m ≤ 3) → V' b m z = V b m z) ∧ (∀ z, z ≠ 0 → V' (A 4) 5 z = V (A 4) 5 z) ∧ (∀ b m z, ¬ (b = a ∧ (m = 2 ∨ (22 ≤ m ∧ m ≤ 31) ∨ m = 33 ∨ (48 ≤ m ∧ m ≤ 53))) → W' b m z = W b m z) ∧ ∀ z, 29 ≤ z → W' a 2 z = W a 2 z
theorem OF_r : OF A a V W V W := ⟨fun _ _ _ _ _ _ _ => rfl, fun _ _ => rfl, fun _ _ _ _ => rfl, fun _ _ => rfl⟩
theorem OF_t (h : OF A a V W V' W') (k : OF A a V' W' V1 W1) : OF A a V W V1 W1 := ⟨fun b m z p q r s => (k.1 b m z p q r s).trans (h.1 b m z p q r s), fun z hz => (k.2.1 z hz).trans (h.2.1 z hz), fun b m z p => (k.2.2.1 b m z p).trans (h.2.2.1 b m z p), fun z hz => (k.2.2.2 z hz).trans (h.2.2.2 z hz)⟩
theorem OF_d (h : DF A a V W V' W') : OF A a V W V' W' := ⟨fun b m z p q r _ => h.1 b m z p q r, h.2.1, fun b m z p => h.2.2.1 b m z (fun q => p ⟨q.1, by omega⟩), h.2.2.2⟩
theorem OF_o (hA : inj A) (f : ∀ b m z, ¬ (b = A 12 ∧ m ≤ 3) → V' b m z = V b m z) (g : ∀ b m z, ¬ (b = a ∧ ((22 ≤ m ∧ m ≤ 28) ∨ (48 ≤ m ∧ m ≤ 53))) → W' b m z = W b m z) : OF A a V W V' W' := ⟨fun b m z _ _ _ p => f b m z p, fun z _ => f _ _ _ (fun q => inj_n hA (by decide) (by decide) (by decide) q.1), fun b m z p => g b m z (fun q => p ⟨q.1, by omega⟩), fun z _ => g _ _ _ (fun q => absurd q.2 (by omega))⟩
/-- behind a deed -/
theorem one_end (h : RR A a V W) (hd : wd A a V W D) (hD : D ≤ 900) (h0 : 0 ≤ t) : f_X11_runOnce_159 V (A 0) t = (dv_u V (A 12) 1 1 (V (A 12) 1 1 + 1), 1) ∧ RR A a (dv_u V (A 12) 1 1 (V (A 12) 1 1 + 1)) (dv_u W a 27 0 (dv_add (W a 27 0) 1)) ∧ OF A a V W (dv_u V (A 12) 1 1 (V (A 12) 1 1 + 1)) (dv_u W a 27 0 (dv_add (W a 27 0) 1)) ∧ wd A a (dv_u V (A 12) 1 1 (V (A 12) 1 1 + 1)) (dv_u W a 27 0 (dv_add (W a 27 0) 1)) (D + 1) := by
  obtain ⟨d1, d2, d3, d4⟩ := hd
  have ad : dv_add (W a 27 0) 1 = W a 27 0 + 1 := dv_add_ok (by omega) (by omega) (by omega) (by omega) (by omega) (by omega)
  have g8 : V (A 0) 8 0 = A 12 := h.2.1.1.2.2.2.2.2.2.2.2.1
  have f : ∀ b m z, ¬ (b = A 12 ∧ m ≤ 3) → dv_u V (A 12) 1 1 (V (A 12) 1 1 + 1) b m z = V b m z := fun b m z q => by
    unfold dv_u; rw [if_neg (fun e => q ⟨e.1, by rw [e.2.1]; decide⟩)]
  have g : ∀ b m z, ¬ (b = a ∧ ((22 ≤ m ∧ m ≤ 28) ∨ (48 ≤ m ∧ m ≤ 53))) → dv_u W a 27 0 (dv_add (W a 27 0) 1) b m z = W b m z := fun b m z q => by
    unfold dv_u; rw [if_neg (fun e => q ⟨e.1, by rw [e.2.1]; decide⟩)]
  refine ⟨?_, RR_oc h f g, OF_o h.1 f g, ?_, ?_, ?_, ?_⟩
  · unfold f_X11_runOnce_159
    rw [bq, g8, bq, bq, bq, if_neg (by omega), d1, ad]
  · rw [u_e, u_e, d1, ad]
  · rw [u_i (by decide), u_j (by decide), d2]
  · rw [u_e, ad]; omega
  · rw [u_j (by decide)]; exact d4
theorem one_bad (h : RR A a V W) (h0 : t < 0) : ∃ V', f_X11_runOnce_159 V (A 0) t = (V', 0) ∧ RR A a V' W ∧ OF A a V W V' W := by
  have g8 : V (A 0) 8 0 = A 12 := h.2.1.1.2.2.2.2.2.2.2.2.1
  have f : ∀ v b m z, ¬ (b = A 12 ∧ m ≤ 3) → dv_u V (A 12) 1 1 v b m z = V b m z := fun v b m z q => by
    unfold dv_u; rw [if_neg (fun e => q ⟨e.1, by rw [e.2.1]; decide⟩)]
  refine ⟨dv_u V (A 12) 1 1 (dv_add (V (A 12) 1 1) 1), ?_, RR_oc h (f _) (fun _ _ _ _ => rfl), OF_o h.1 (f _) (fun _ _ _ _ => rfl)⟩
  unfold f_X11_runOnce_159
  rw [bq, g8, bq, bq, bq, if_pos h0]
end QTF
section QTG
variable {V V' V0 V1 V2 U U1 W W' W0 W1 W2 : dV} {a c z t k s p q x y n u o r B P i j m m' live ns D zz1 zz2 v : Int} {A : Nat → Int} {w cd vl X M g : Int → Int} {S T S0 S1 S2 : dn}
/-- what the reference does for one run, behind going along -/
theorem m_run (hq : q < zz1) (e : f_X12_goesAlong W a P 1 = (W1, 0)) : f_X12_runs_19b (W, zz2, zz1, a, P, q) = if W1 a 52 0 ≠ 0 then (if W1 a 51 0 = 0 then Sum.inr (W1, 0) else dv_b2 (f_X12_obeys W1 a) fun V49 x7 => if 0 ≤ x7 then Sum.inl (dv_u V49 a 27 0 (dv_add (V49 a 27 0) 1), zz2, zz1, a, P, q + 1) else Sum.inr (V49, 0)) else Sum.inl (W1, zz2, zz1, a, P, q + 1) := by
  rw [f_X12_runs_19e]
  unfold f_X12_runs_19c f_X12_runs_67
  rw [if_neg (by omega), dv_bn2 e]
  rfl
/-- the class's run -/
theorem c_once0 {a0 xx st fl : Int} {y2 : Int} (g8 : V a0 8 0 = r) (g0 : V a0 0 0 = st) (g1 : V st 0 0 = fl) (e1 : f_X6_setOrderWords V r fl = (V1, 0)) (v0 : V1 a0 8 0 = r) (v7 : V1 a0 7 0 = xx) (e2 : f_X6_isSo V1 r xx c = (V2, y2)) (hy : y2 = 0) : f_X11_runOnce V a0 c = (V2, 1) := by
  unfold f_X11_runOnce
  rw [bq, g8, bq, g0, bq, g1, dv_bn2 e1, bq, v0, bq, v7, dv_bn2 e2, if_neg (fun q => q hy)]
theorem c_once1 {a0 xx st fl : Int} {y2 : Int} {V3 : dV} (g8 : V a0 8 0 = r) (g0 : V a0 0 0 = st) (g1 : V st 0 0 = fl) (e1 : f_X6_setOrderWords V r fl = (V1, 0)) (v0 : V1 a0 8 0 = r) (v7 : V1 a0 7 0 = xx) (e2 : f_X6_isSo V1 r xx c = (V2, y2)) (hy : y2 = 1) (v28 : V2 a0 8 0 = r) (v27 : V2 a0 7 0 = xx) (e4 : f_X6_reckonSums V2 r xx c = (V3, 0)) : f_X11_runOnce V a0 c = (V3, 0) := by
  unfold f_X11_runOnce
  rw [bq, g8, bq, g0, bq, g1, dv_bn2 e1, bq, v0, bq, v7, dv_bn2 e2, if_pos (by rw [hy]; decide), bq, v28, bq, v27, dv_bn2 e4, if_neg (fun q => q rfl)]
theorem c_once2 {a0 xx st fl κ : Int} {y2 : Int} {V3 : dV} {Z : dR} (g8 : V a0 8 0 = r) (g0 : V a0 0 0 = st) (g1 : V st 0 0 = fl) (e1 : f_X6_setOrderWords V r fl = (V1, 0)) (v0 : V1 a0 8 0 = r) (v7 : V1 a0 7 0 = xx) (e2 : f_X6_isSo V1 r xx c = (V2, y2)) (hy : y2 = 1) (v28 : V2 a0 8 0 = r) (v27 : V2 a0 7 0 = xx) (e4 : f_X6_reckonSums V2 r xx c = (V3, 1)) (v37 : V3 a0 7 0 = xx) (v38 : V3 a0 8 0 = r) (hm : f_X10_mark V3 xx c 0 = (κ, ())) (hZ : (if κ = 0 then dv_b2 (f_X11_doLay V3 a0 (V3 r 2 0) (V3 r 2 1) (V3 r 2 2)) (fun V112 x22 => dv_b (V112 a0 8 0) fun zz13 => dv_b (dv_u V112 zz13 1 (2) (x22)) fun V125 => f_X11_runOnce_159 (V125) (a0) (x22)) else if κ = 1 then dv_b2 (f_X11_doRoll V3 a0 (V3 r 2 0)) (fun V139 x33 => f_X11_runOnce_159 (V139) (a0) (x33)) else if κ = 2 then dv_b2 (f_X11_doMirror V3 a0) (fun V147 x36 => f_X11_runOnce_159 (V147) (a0) (x36)) else dv_b2 (f_X11_doPass V3 a0) (fun V155 x39 => f_X11_runOnce_159 (V155) (a0) (x39))) = Z) : f_X11_runOnce V a0 c = Z := by
  unfold f_X11_runOnce
  rw [bq, g8, bq, g0, bq, g1, dv_bn2 e1, bq, v0, bq, v7, dv_bn2 e2, if_pos (by rw [hy]; decide), bq, v28, bq, v27, dv_bn2 e4, if_pos (by decide), bq, v37, dv_bn2 hm, bq, v38, bq, bq, bq, bq, bq, bq, bq]
  exact hZ
/-- one run of a clause, in both -/
theorem one_run (h : RR A a V W) (hd : wd A a V W D) (hD : 0 ≤ D ∧ D ≤ 900) (c0 : 0 ≤ c) (c1 : c ≤ 11) (hoc : oc cd vl i j (V (A 11) 0) (fun k => V (A 11) 1 (c * 8 + k)) (V (A 11) 2 0) ns S0 S1 S2 T) (i0 : 0 ≤ i) (hc : ∀ i, 0 ≤ i → cd i = if B + i < P then W a 2 (80 + (B + i)) else 0) (hv : ∀ i, 0 ≤ i → vl i = W a 2 (2880 + (B + i))) (h48 : W a 48 0 = B + i) (hq : q < zz1) : ∃ (V' W' : dV) (y : Int), f_X11_runOnce V (A 0) c = (V', y) ∧ RR A a V' W' ∧ OF A a V W V' W' ∧ W' a 48 0 = B + i ∧ ((y = 1 ∧ f_X12_runs_19b (W, zz2, zz1, a, P, q) = Sum.inl (W', zz2, zz1, a, P, q + 1) ∧ wd A a V' W' (D + 1)) ∨ (y = 0 ∧ f_X12_runs_19b (W, zz2, zz1, a, P, q) = Sum.inr (W', 0))) := by
  have hA := h.1
  obtain ⟨d1, d2, d3, d4⟩ := id hd
  obtain ⟨g0, g1, -⟩ := RR_G h
  have g7 : V (A 0) 7 0 = A 11 := h.2.1.1.2.2.2.2.2.2.2.1
  have g8 : V (A 0) 8 0 = A 12 := h.2.1.1.2.2.2.2.2.2.2.2.1
  have nx : A 11 ≠ A 12 := inj_n hA (by decide) (by decide) (by decide)
  have kk := (RR_n h).1
  -- the words
  obtain ⟨V1, e1, f1, w1⟩ := c_owords (V := V) (r := A 12) (fl := A 4) (inj_n hA (by decide) (by decide) (by decide)) kk
  have hw := wo_b kk (dn := V (A 12) 1 1) (lt := V (A 12) 1 2) (by omega) (by omega)
  obtain ⟨w, hwd⟩ : ∃ w : Int → Int, w = wo (V (A 4)) (V (A 12) 1 1) (V (A 12) 1 2) := ⟨_, rfl⟩
  have ow1 : ow a w W := by rw [hwd, d1, d2]; exact RR_ow h
  rw [← hwd] at w1 hw
  have kw1 : kw_ok V1 (A 12) w := ⟨w1, hw⟩
  have F1 : ∀ b m z, ¬ (b = A 12 ∧ m ≤ 3) → V1 b m z = V b m z := fun b m z q => f1 b m z (fun e => q ⟨e.1, by rw [e.2]; decide⟩)
  have x1 : ∀ m z, V1 (A 11) m z = V (A 11) m z := fun m z => F1 _ m z (fun q => nx q.1)
  have OC : ∀ U : dV, (∀ m z, U (A 11) m z = V (A 11) m z) → oc cd vl i j (U (A 11) 0) (fun k => U (A 11) 1 (c * 8 + k)) (U (A 11) 2 0) ns S0 S1 S2 T := fun U hU => by
    rw [show U (A 11) 0 = V (A 11) 0 from funext (hU 0), show U (A 11) 1 = V (A 11) 1 from funext (hU 1), hU]
    exact hoc
  have oc1 := OC V1 x1
  obtain ⟨V2, y2, e2, f2, r2⟩ := c_isSo (x := A 11) c0 c1 (oc_T oc1) oc1.2.2.2.2.1 kw1 nx
  have F2 : ∀ b m z, ¬ (b = A 12 ∧ m ≤ 3) → V2 b m z = V b m z := fun b m z q => by
    rw [f2 b m z (fun e => q ⟨e.1, by omega⟩), F1 b m z q]
  have x2 : ∀ m z, V2 (A 11) m z = V (A 11) m z := fun m z => F2 _ m z (fun q => nx q.1)
  have k21 : ∀ z, V2 (A 12) 1 z = V1 (A 12) 1 z := fun z => f2 _ 1 z (fun q => absurd q.2 (by decide))
  -- the reference
  obtain ⟨W1, e3, f3, g3, k50, k49, r3⟩ := m_goes (live := 1) (P := P) hoc i0 hc hv ow1 h48 hw
  obtain ⟨r52, r51⟩ := r3 (by decide)
  have G1 : ∀ b m z, ¬ (b = a ∧ ((22 ≤ m ∧ m ≤ 28) ∨ (48 ≤ m ∧ m ≤ 53))) → W1 b m z = W b m z := fun b m z q => f3 b m z (fun e => q ⟨e.1, by omega⟩)
  have w48 : W1 a 48 0 = B + i := by rw [f3 a 48 0 (fun q => absurd q.2 (by omega)), h48]
  have w27 : W1 a 27 0 = W a 27 0 := f3 a 27 0 (fun q => absurd q.2 (by omega))
  have w28 : W1 a 28 0 = W a 28 0 := f3 a 28 0 (fun q => absurd q.2 (by omega))
  rw [m_run hq e3]
  have v0 : V1 (A 0) 8 0 = A 12 := by rw [F1 _ _ _ (fun q => inj_n hA (by decide) (by decide) (by decide) q.1), g8]
  have v7 : V1 (A 0) 7 0 = A 11 := by rw [F1 _ _ _ (fun q => inj_n hA (by decide) (by decide) (by decide) q.1), g7]
  by_cases hso : so (T w)
  case neg =>
    have y0 : y2 = 0 := by rcases r2 with ⟨-, q⟩ | ⟨q, -⟩; exact absurd q hso; exact q
    refine ⟨V2, W1, 1, c_once0 g8 g0 g1 e1 v0 v7 e2 y0, RR_oc h F2 G1, OF_o hA F2 G1, w48, Or.inl ⟨rfl, by rw [if_neg (fun q => hso (r52.mp q))], ?_⟩⟩
    refine ⟨?_, ?_, by omega, by omega⟩
    · rw [k21, w1 1 (by decide) (by decide), hwd, w27]; exact d1
    · rw [k21, w1 2 (by decide) (by decide), hwd, w28]; exact d2
  case pos =>
    have y1 : y2 = 1 := by rcases r2 with ⟨q, -⟩ | ⟨-, q⟩; exact q; exact absurd hso q
    have oc2 := OC V2 x2
    obtain ⟨-, -, -, h5, -, mm, mm', l1, l2, l3, hs, -⟩ := id oc2
    have h5 : V2 (A 11) 1 (c * 8 + 5) ≤ V2 (A 11) 2 0 := h5
    obtain ⟨V3, y3, e4, f4, r4⟩ := c_sumsO (x := A 11) c0 c1 hs h5 (kw_f kw1 f2) nx
    have F3 : ∀ b m z, ¬ (b = A 12 ∧ m ≤ 3) → V3 b m z = V b m z := fun b m z q => by
      rw [f4 b m z (fun e => q ⟨e.1, by omega⟩), F2 b m z q]
    have x3 : ∀ m z, V3 (A 11) m z = V (A 11) m z := fun m z => F3 _ m z (fun q => nx q.1)
    have R3 := RR_oc h F3 G1
    have O3 := OF_o hA F3 G1
    have k31 : ∀ z, V3 (A 12) 1 z = V1 (A 12) 1 z := fun z => by rw [f4 _ 1 z (fun q => absurd q.2 (by decide)), k21]
    have D3 : wd A a V3 W1 D := ⟨by rw [k31, w1 1 (by decide) (by decide), hwd, w27]; exact d1, by rw [k31, w1 2 (by decide) (by decide), hwd, w28]; exact d2, by rw [w27]; exact d3, by rw [w28]; exact d4⟩
    have v28 : V2 (A 0) 8 0 = A 12 := by rw [F2 _ _ _ (fun q => inj_n hA (by decide) (by decide) (by decide) q.1), g8]
    have v27 : V2 (A 0) 7 0 = A 11 := by rw [F2 _ _ _ (fun q => inj_n hA (by decide) (by decide) (by decide) q.1), g7]
    have v38 : V3 (A 0) 8 0 = A 12 := by rw [F3 _ _ _ (fun q => inj_n hA (by decide) (by decide) (by decide) q.1), g8]
    have v37 : V3 (A 0) 7 0 = A 11 := by rw [F3 _ _ _ (fun q => inj_n hA (by decide) (by decide) (by decide) q.1), g7]
    rw [if_pos (r52.mpr hso)]
    rcases r4 with ⟨rfl, hsm⟩ | ⟨rfl, hbr⟩
    case inr =>
      have z51 : W1 a 51 0 = 0 := by rcases r51 with ⟨-, q⟩ | ⟨q, -⟩; exact absurd hbr (smw_n q); exact q
      exact ⟨V3, W1, 0, c_once1 g8 g0 g1 e1 v0 v7 e2 y1 v28 v27 e4, R3, O3, w48, Or.inr ⟨rfl, by rw [if_pos z51]⟩⟩
    case inl =>
      obtain ⟨z51, hsm'⟩ : W1 a 51 0 ≠ 0 ∧ smw w ns S0 S1 S2 (W1 a 53) := by rcases r51 with q | ⟨-, q⟩; exact q; exact absurd q (smw_n hsm)
      have hm0 : f_X10_mark V3 (A 11) c 0 = (V (A 11) 1 (c * 8 + 0), ()) := by rw [q_mark c0 c1 (by decide) (by decide), x3]
      have hM0 : 0 ≤ V (A 11) 1 (c * 8 + 0) ∧ V (A 11) 1 (c * 8 + 0) ≤ 3 := hoc.1
      have hcd : cd i = if V (A 11) 1 (c * 8 + 0) = 0 then 21 else 23 + V (A 11) 1 (c * 8 + 0) := hoc.2.1
      have hns : ns = (if V (A 11) 1 (c * 8 + 0) = 0 then 3 else if V (A 11) 1 (c * 8 + 0) = 1 then 1 else 0) := hoc.2.2.1
      rw [if_neg z51]
      -- behind the deed
      have CL : ∀ Z, (if V (A 11) 1 (c * 8 + 0) = 0 then dv_b2 (f_X11_doLay V3 (A 0) (V3 (A 12) 2 0) (V3 (A 12) 2 1) (V3 (A 12) 2 2)) (fun V112 x22 => dv_b (V112 (A 0) 8 0) fun zz13 => dv_b (dv_u V112 zz13 1 (2) (x22)) fun V125 => f_X11_runOnce_159 (V125) ((A 0)) (x22)) else if V (A 11) 1 (c * 8 + 0) = 1 then dv_b2 (f_X11_doRoll V3 (A 0) (V3 (A 12) 2 0)) (fun V139 x33 => f_X11_runOnce_159 (V139) ((A 0)) (x33)) else if V (A 11) 1 (c * 8 + 0) = 2 then dv_b2 (f_X11_doMirror V3 (A 0)) (fun V147 x36 => f_X11_runOnce_159 (V147) ((A 0)) (x36)) else dv_b2 (f_X11_doPass V3 (A 0)) (fun V155 x39 => f_X11_runOnce_159 (V155) ((A 0)) (x39))) = Z → f_X11_runOnce V (A 0) c = Z := by
        exact fun Z hZ => c_once2 g8 g0 g1 e1 v0 v7 e2 y1 v28 v27 e4 v37 v38 hm0 hZ
      have FIN : ∀ (V4 W2 : dV) (t : Int), RR A a V4 W2 → OF A a V W V4 W2 → W2 a 48 0 = B + i → (0 ≤ t → wd A a V4 W2 D) → f_X12_obeys W1 a = (W2, t) → (∀ Z, f_X11_runOnce_159 V4 (A 0) t = Z → f_X11_runOnce V (A 0) c = Z) → ∃ (V' W' : dV) (y : Int), f_X11_runOnce V (A 0) c = (V', y) ∧ RR A a V' W' ∧ OF A a V W V' W' ∧ W' a 48 0 = B + i ∧ ((y = 1 ∧ (dv_b2 (f_X12_obeys W1 a) fun V49 x7 => if 0 ≤ x7 then Sum.inl (dv_u V49 a 27 0 (dv_add (V49 a 27 0) 1), zz2, zz1, a, P, q + 1) else (Sum.inr (V49, 0) : Sum (dV × Int × Int × Int × Int × Int) dR)) = Sum.inl (W', zz2, zz1, a, P, q + 1) ∧ wd A a V' W' (D + 1)) ∨ (y = 0 ∧ (dv_b2 (f_X12_obeys W1 a) fun V49 x7 => if 0 ≤ x7 then Sum.inl (dv_u V49 a 27 0 (dv_add (V49 a 27 0) 1), zz2, zz1, a, P, q + 1) else (Sum.inr (V49, 0) : Sum (dV × Int × Int × Int × Int × Int) dR)) = Sum.inr (W', 0))) := by
        intro V4 W2 t R O o48 hd4 hob hcl
        rw [dv_bn2 hob]
        by_cases e0 : 0 ≤ t
        · obtain ⟨p1, p2, p3, p4⟩ := one_end R (hd4 e0) hD.2 e0
          exact ⟨_, _, 1, hcl _ p1, p2, OF_t O p3, by rw [u_j (by decide)]; exact o48, Or.inl ⟨rfl, by rw [if_pos e0], p4⟩⟩
        · obtain ⟨V5, p1, p2, p3⟩ := one_bad (t := t) R (by omega)
          exact ⟨V5, W2, 0, hcl _ p1, p2, OF_t O p3, o48, Or.inr ⟨rfl, by rw [if_neg e0]⟩⟩
      have DW : ∀ {V4 W2 : dV}, DF A a V3 W1 V4 W2 → wd A a V4 W2 D ∧ W2 a 48 0 = B + i ∧ (∀ m z, V4 (A 12) m z = V3 (A 12) m z) ∧ ∀ m z, V4 (A 0) m z = V3 (A 0) m z := fun {V4 W2} hF => by
        have q12 : ∀ m z, V4 (A 12) m z = V3 (A 12) m z := fun m z => hF.1 _ m z (fun q => inj_n hA (by decide) (by decide) (by decide) q.1) (fun q => inj_n hA (by decide) (by decide) (by decide) q.1) (fun q => inj_n hA (by decide) (by decide) (by decide) q.1)
        have q0 : ∀ m z, V4 (A 0) m z = V3 (A 0) m z := fun m z => hF.1 _ m z (fun q => inj_n hA (by decide) (by decide) (by decide) q.1) (fun q => inj_n hA (by decide) (by decide) (by decide) q.1) (fun q => inj_n hA (by decide) (by decide) (by decide) q.1)
        have qw : ∀ m z, m = 27 ∨ m = 28 ∨ m = 48 → W2 a m z = W1 a m z := fun m z hm => hF.2.2.1 a m z (fun q => by have := q.2; omega)
        obtain ⟨p1, p2, p3, p4⟩ := D3
        exact ⟨⟨by rw [q12, qw 27 0 (by decide)]; exact p1, by rw [q12, qw 28 0 (by decide)]; exact p2, by rw [qw 27 0 (by decide)]; exact p3, by rw [qw 28 0 (by decide)]; exact p4⟩, by rw [qw 48 0 (by decide)]; exact w48, q12, q0⟩
      by_cases m0 : V (A 11) 1 (c * 8 + 0) = 0
      · -- LAY
        rw [if_pos m0] at hcd hns
        rw [hns] at hsm hsm'
        have s3 := (hsm.resolve_left (by decide)).resolve_left (fun q => absurd q.1 (by decide))
        have s3' := (hsm'.resolve_left (by decide)).resolve_left (fun q => absurd q.1 (by decide))
        obtain ⟨-, s0, s1, s2⟩ := s3
        obtain ⟨-, t0, t1, t2⟩ := s3'
        obtain ⟨D0, D1, D2⟩ : d_in S0 ∧ d_in S1 ∧ d_in S2 := by
          rcases hs with ⟨q, -⟩ | ⟨q, -⟩ | ⟨-, j1, j2, -, D0, D1, D2, -⟩
          · omega
          · omega
          · exact ⟨D_sum_in D0, D_sum_in D1, D_sum_in D2⟩
        have b0 := D0 w hw _ t0
        have b1 := D1 w hw _ t1
        have b2 := D2 w hw _ t2
        have q0 : V3 (A 12) 2 0 = W1 a 53 0 := Option.some.inj (s0.symm.trans t0)
        have q1 : V3 (A 12) 2 1 = W1 a 53 1 := Option.some.inj (s1.symm.trans t1)
        have q2 : V3 (A 12) 2 2 = W1 a 53 2 := Option.some.inj (s2.symm.trans t2)
        obtain ⟨V4, W2, t, p1, p2, p3, -, p5, p6⟩ := D_lay (c := sml (W1 a 53 0)) (x := sml (W1 a 53 1)) (y := sml (W1 a 53 2)) R3
        rw [c_laysml R3] at p1
        obtain ⟨d5, o5, r12, r0⟩ := DW p5
        have fV : ∀ b m z, ¬ (b = A 12 ∧ m ≤ 3) → dv_u V4 (A 12) 1 2 t b m z = V4 b m z := fun b m z q => by
          unfold dv_u; rw [if_neg (fun e => q ⟨e.1, by rw [e.2.1]; decide⟩)]
        have gW : ∀ v, ∀ b m z, ¬ (b = a ∧ ((22 ≤ m ∧ m ≤ 28) ∨ (48 ≤ m ∧ m ≤ 53))) → dv_u W2 a 28 0 v b m z = W2 b m z := fun v b m z q => by
          unfold dv_u; rw [if_neg (fun e => q ⟨e.1, by rw [e.2.1]; decide⟩)]
        refine FIN (dv_u V4 (A 12) 1 2 t) (dv_u W2 a 28 0 (if 0 ≤ t then t else W2 a 28 0)) t (RR_oc p3 fV (gW _)) (OF_t (OF_t O3 (OF_d p5)) (OF_o hA fV (gW _))) (by rw [u_j (by decide)]; exact o5) (fun ht => ?_) ?_ (fun Z hZ => CL Z ?_)
        · obtain ⟨z1, z2, z3, z4⟩ := d5
          exact ⟨by rw [u_i (by decide), u_j (by decide)]; exact z1, by rw [u_e, u_e, if_pos ht], by rw [u_j (by decide)]; exact z3, by rw [u_e, if_pos ht]; omega⟩
        · unfold f_X12_obeys f_X12_obeys_101
          rw [bq, k50, hcd, if_neg (by decide), if_neg (by decide), if_neg (by decide), bq, dv_bn2 (q_small b0.1 b0.2), bq, dv_bn2 (q_small b1.1 b1.2), bq, dv_bn2 (q_small b2.1 b2.2), dv_bn2 p2]
          by_cases e0 : 0 ≤ t
          · rw [if_pos e0, if_pos e0, bq]
          · rw [if_neg e0, if_neg e0, bq, bq]
        · rw [if_pos m0, q0, q1, q2, dv_bn2 p1, bq, r0, v38, bq]
          exact hZ
      · rw [if_neg m0] at hcd hns
        by_cases m1 : V (A 11) 1 (c * 8 + 0) = 1
        · -- ROLL
          rw [if_pos m1] at hns
          rw [hns] at hsm hsm'
          obtain ⟨-, s0⟩ := (hsm.resolve_left (by decide)).resolve_right (fun q => absurd q.1 (by decide))
          obtain ⟨-, t0⟩ := (hsm'.resolve_left (by decide)).resolve_right (fun q => absurd q.1 (by decide))
          have D0 : d_in S0 := by
            rcases hs with ⟨q, -⟩ | ⟨-, -, -, -, D0, -⟩ | ⟨q, -⟩
            · omega
            · exact D_sum_in D0
            · omega
          have b0 := D0 w hw _ t0
          have q0 : V3 (A 12) 2 0 = W1 a 53 0 := Option.some.inj (s0.symm.trans t0)
          obtain ⟨V4, W2, t, p1, p2, p3, -, p5⟩ := D_roll (c := sml (W1 a 53 0)) R3
          rw [c_rollsml R3] at p1
          obtain ⟨d5, o5, -, -⟩ := DW p5
          refine FIN V4 W2 t p3 (OF_t O3 (OF_d p5)) o5 (fun _ => d5) ?_ (fun Z hZ => CL Z ?_)
          · unfold f_X12_obeys
            rw [bq, k50, hcd, if_pos (by omega), bq, dv_bn2 (q_small b0.1 b0.2), dv_bn2 p2]
          · rw [if_neg m0, if_pos m1, q0, dv_bn2 p1]
            exact hZ
        · by_cases m2 : V (A 11) 1 (c * 8 + 0) = 2
          · obtain ⟨V4, W2, t, p1, p2, p3, -, p5⟩ := D_mirror R3
            obtain ⟨d5, o5, -, -⟩ := DW p5
            refine FIN V4 W2 t p3 (OF_t O3 (OF_d p5)) o5 (fun _ => d5) ?_ (fun Z hZ => CL Z ?_)
            · unfold f_X12_obeys
              rw [bq, k50, hcd, if_neg (by omega), if_pos (by omega), dv_bn2 p2]
            · rw [if_neg m0, if_neg m1, if_pos m2, dv_bn2 p1]
              exact hZ
          · obtain ⟨V4, W2, t, p1, p2, p3, -, p5⟩ := D_pass R3
            obtain ⟨d5, o5, -, -⟩ := DW p5
            refine FIN V4 W2 t p3 (OF_t O3 (OF_d p5)) o5 (fun _ => d5) ?_ (fun Z hZ => CL Z ?_)
            · have hM0 : 0 ≤ V (A 11) 1 (c * 8 + 0) ∧ V (A 11) 1 (c * 8 + 0) ≤ 3 := hM0
              unfold f_X12_obeys
              rw [bq, k50, hcd, if_neg (by omega), if_neg (by omega), if_pos (by omega), dv_bn2 p2]
            · rw [if_neg m0, if_neg m1, if_neg m2, dv_bn2 p1]
              exact hZ
end QTG
section QTH
variable {V V' V0 V1 V2 U U1 W W' W0 W1 W2 : dV} {a c z t k s p x y n u o r B P i j m m' live ns D zz1 zz2 v d fl : Int} {A : Nat → Int}
/-- a floor is copied -/
theorem c_copy (h : d ≠ s) : ∃ V', f_X1_copyFrom V d s = (V', 0) ∧ (∀ b m z, ¬ (b = d ∧ m ≤ 10 ∧ m ≠ 6) → V' b m z = V b m z) ∧ (∀ c, 0 ≤ c → c < 9 → V' d 0 c = V s 0 c ∧ V' d 1 c = V s 1 c ∧ V' d 2 c = V s 2 c ∧ V' d 3 c = V s 3 c ∧ V' d 4 c = V s 4 c) ∧ (V' d 5 0 = V s 5 0 ∧ V' d 5 1 = V s 5 1 ∧ V' d 5 2 = V s 5 2) ∧ V' d 7 0 = V s 7 0 ∧ V' d 8 0 = V s 8 0 ∧ V' d 9 0 = V s 9 0 ∧ V' d 10 0 = V s 10 0 := by
  have hs := Ne.symm h
  unfold f_X1_copyFrom
  rw [bq, bq, bq, bq, bq, bq, bq, bq, bq, bq, bq, bq, bq, bq]
  refine ⟨_, rfl, fun b m z hb => ?_, fun c c0 c9 => ⟨?_, ?_, ?_, ?_, ?_⟩, ⟨?_, ?_, ?_⟩, ?_, ?_, ?_, ?_⟩
  · by_cases e : b = d
    · have hm : m ≠ 10 ∧ m ≠ 9 ∧ m ≠ 8 ∧ m ≠ 7 ∧ m ≠ 5 ∧ m ≠ 4 ∧ m ≠ 3 ∧ m ≠ 2 ∧ m ≠ 1 ∧ m ≠ 0 := by
        by_cases q : m ≤ 10 ∧ m ≠ 6
        · exact absurd ⟨e, q⟩ hb
        · omega
      obtain ⟨m10, m9, m8, m7, m5, m4, m3, m2, m1, m0⟩ := hm
      rw [u_j m10, u_j m9, u_j m8, u_j m7, cp_j m5, cp_j m4, cp_j m3, cp_j m2, cp_j m1, cp_j m0]
    · rw [u_b e, u_b e, u_b e, u_b e, cp_b e, cp_b e, cp_b e, cp_b e, cp_b e, cp_b e]
  · rw [u_j (by decide), u_j (by decide), u_j (by decide), u_j (by decide), cp_j (by decide), cp_j (by decide), cp_j (by decide), cp_j (by decide), cp_j (by decide), cp_in (by omega), show (0 : Int) + (c - 0) = c by omega]
  · rw [u_j (by decide), u_j (by decide), u_j (by decide), u_j (by decide), cp_j (by decide), cp_j (by decide), cp_j (by decide), cp_j (by decide), cp_in (by omega), cp_b hs, show (0 : Int) + (c - 0) = c by omega]
  · rw [u_j (by decide), u_j (by decide), u_j (by decide), u_j (by decide), cp_j (by decide), cp_j (by decide), cp_j (by decide), cp_in (by omega), cp_b hs, cp_b hs, show (0 : Int) + (c - 0) = c by omega]
  · rw [u_j (by decide), u_j (by decide), u_j (by decide), u_j (by decide), cp_j (by decide), cp_j (by decide), cp_in (by omega), cp_b hs, cp_b hs, cp_b hs, show (0 : Int) + (c - 0) = c by omega]
  · rw [u_j (by decide), u_j (by decide), u_j (by decide), u_j (by decide), cp_j (by decide), cp_in (by omega), cp_b hs, cp_b hs, cp_b hs, cp_b hs, show (0 : Int) + (c - 0) = c by omega]
  · rw [u_j (by decide), u_j (by decide), u_j (by decide), u_j (by decide), cp_in (by decide), cp_b hs, cp_b hs, cp_b hs, cp_b hs, cp_b hs]; rfl
  · rw [u_j (by decide), u_j (by decide), u_j (by decide), u_j (by decide), cp_in (by decide), cp_b hs, cp_b hs, cp_b hs, cp_b hs, cp_b hs]; rfl
  · rw [u_j (by decide), u_j (by decide), u_j (by decide), u_j (by decide), cp_in (by decide), cp_b hs, cp_b hs, cp_b hs, cp_b hs, cp_b hs]; rfl
  · rw [u_j (by decide), u_j (by decide), u_j (by decide), u_e, cp_b hs, cp_b hs, cp_b hs, cp_b hs, cp_b hs, cp_b hs]
  · rw [u_j (by decide), u_j (by decide), u_e, u_b hs, cp_b hs, cp_b hs, cp_b hs, cp_b hs, cp_b hs, cp_b hs]
  · rw [u_j (by decide), u_e, u_b hs, u_b hs, cp_b hs, cp_b hs, cp_b hs, cp_b hs, cp_b hs, cp_b hs]
  · rw [u_e, u_b hs, u_b hs, u_b hs, cp_b hs, cp_b hs, cp_b hs, cp_b hs, cp_b hs, cp_b hs]
/-- two floors tell the same -/
def fe (φ ψ : Nat → Int → Int) : Prop := (∀ c, 0 ≤ c → c < 9 → ψ 0 c = φ 0 c ∧ ψ 1 c = φ 1 c ∧ ψ 2 c = φ 2 c ∧ ψ 3 c = φ 3 c ∧ ψ 4 c = φ 4 c) ∧ (ψ 5 0 = φ 5 0 ∧ ψ 5 1 = φ 5 1 ∧ ψ 5 2 = φ 5 2) ∧ ψ 7 0 = φ 7 0 ∧ ψ 8 0 = φ 8 0 ∧ ψ 9 0 = φ 9 0 ∧ ψ 10 0 = φ 10 0
theorem fe_kg {φ ψ : Nat → Int → Int} (h : fe φ ψ) (g : kgf φ) : kgf ψ := kg_9 g h.1 h.2.1 h.2.2.1 h.2.2.2.1 h.2.2.2.2.1 h.2.2.2.2.2
theorem fe_ef {φ ψ χ : Nat → Int → Int} (h : fe φ ψ) (e : ef φ χ) : ef ψ χ := by
  obtain ⟨h1, ⟨h2, h3, h4⟩, h5, h6, h7, h8⟩ := h
  obtain ⟨e1, ⟨e2, e3, e4⟩, e5, e6, e7, e8⟩ := e
  refine ⟨fun c c0 c9 => ?_, ⟨h2.trans e2, h3.trans e3, h4.trans e4⟩, h5.trans e5, h6.trans e6, h7.trans e7, h8.trans e8⟩
  obtain ⟨a0, a1, a2, a3, a4⟩ := h1 c c0 c9
  obtain ⟨b0, b1, b2, b3, b4⟩ := e1 c c0 c9
  exact ⟨a0.trans b0, a1.trans b1, a2.trans b2, a3.trans b3, a4.trans b4⟩
theorem fe_t {φ ψ χ : Nat → Int → Int} (h : fe φ ψ) (e : fe ψ χ) : fe φ χ := by
  obtain ⟨h1, ⟨h2, h3, h4⟩, h5, h6, h7, h8⟩ := h
  obtain ⟨e1, ⟨e2, e3, e4⟩, e5, e6, e7, e8⟩ := e
  refine ⟨fun c c0 c9 => ?_, ⟨e2.trans h2, e3.trans h3, e4.trans h4⟩, e5.trans h5, e6.trans h6, e7.trans h7, e8.trans h8⟩
  obtain ⟨a0, a1, a2, a3, a4⟩ := h1 c c0 c9
  obtain ⟨b0, b1, b2, b3, b4⟩ := e1 c c0 c9
  exact ⟨b0.trans a0, b1.trans a1, b2.trans a2, b3.trans a3, b4.trans a4⟩
theorem fe_mv {φ ψ : Nat → Int → Int} {L L' : Int → Int} {b : Int} (h : fe φ ψ) (hL : ∀ z, 0 ≤ z → z < 29 → L' (b + z) = L (b + z)) : fe (mvf φ L b) (mvf ψ L' b) := by
  obtain ⟨h1, ⟨h2, h3, h4⟩, h5, h6, h7, h8⟩ := h
  refine ⟨fun c c0 c9 => ?_, ⟨?_, ?_, ?_⟩, h5, h6, h7, hL 27 (by decide) (by decide)⟩
  · obtain ⟨a0, a1, a2, a3, a4⟩ := h1 c c0 c9
    exact ⟨a0, a1, hL c c0 (by omega), hL (9 + c) (by omega) (by omega), hL (18 + c) (by omega) (by omega)⟩
  · show (if (0 : Int) = 0 then L' (b + 28) else ψ 5 0) = (if (0 : Int) = 0 then L (b + 28) else φ 5 0)
    rw [if_pos rfl, if_pos rfl]; exact hL 28 (by decide) (by decide)
  · show (if (1 : Int) = 0 then L' (b + 28) else ψ 5 1) = (if (1 : Int) = 0 then L (b + 28) else φ 5 1)
    rw [if_neg (by decide), if_neg (by decide)]; exact h3
  · show (if (2 : Int) = 0 then L' (b + 28) else ψ 5 2) = (if (2 : Int) = 0 then L (b + 28) else φ 5 2)
    rw [if_neg (by decide), if_neg (by decide)]; exact h4
/-- the floor and what can be undone, as they were at a time before -/
theorem RR_back (h : RR A a V W) (h0 : RR A a V0 W0) (f : cf A (fun i m => i == 4 || (i == 15 && (m == 0 || m == 4))) V V') (g : wf a (fun m => m == 2 || m == 31 || m == 33) W W') (hK : ∀ z, 29 ≤ z → W' a 2 z = W a 2 z) (hK0 : ∀ z, (0 ≤ z ∧ z < 47) ∨ (65 ≤ z ∧ z < 70) → W' a 2 z = W0 a 2 z) (hf : fe (V0 (A 4)) (V' (A 4))) (hp : ∀ z, 0 ≤ z → z < 480 → V' (A 15) 0 z = V0 (A 15) 0 z) (hp4 : V' (A 15) 4 0 = V0 (A 15) 4 0) (h31 : ∀ z, 0 ≤ z → z < 480 → W' a 31 z = W0 a 31 z) (h33 : W' a 33 0 = W0 a 33 0) : RR A a V' W' := by
  obtain ⟨-, -, ⟨⟨k1, k2⟩, -, -⟩, -, -, ⟨p1, p2, p3⟩, -⟩ := id h0
  refine RR_act h (cf_m f (fun i m hL => ?_)) (wf_m g (fun m hM => ?_)) (fun z _ => f 14 1 z (by decide) (by decide) rfl) (fun z hz => hK z (by omega)) ⟨fe_ef hf (ef_k k1 (fun z hz => by rw [Int.zero_add]; exact hK0 z hz)), fe_kg hf k2⟩ ⟨by rw [hp4, h33]; exact p1, by rw [h33]; exact p2, fun v v0 v1 => ?_⟩
  · unfold L_a at hL
    simp only [Bool.or_eq_false_iff, Bool.and_eq_false_iff, beq_eq_false_iff_ne, bne_eq_false_iff_eq, ne_eq] at hL ⊢
    omega
  · unfold M_a at hM
    simp only [Bool.or_eq_false_iff, Bool.and_eq_false_iff, beq_eq_false_iff_ne, decide_eq_false_iff_not, ne_eq] at hM ⊢
    omega
  · rw [h33] at v1
    obtain ⟨⟨s1, s2, s3, s4, s5⟩, s6⟩ := p3 v v0 v1
    have e1 : ∀ z, 0 ≤ z → z < 30 → V' (A 15) 0 (30 * v + z) = V0 (A 15) 0 (30 * v + z) ∧ W' a 31 (30 * v + z) = W0 a 31 (30 * v + z) := fun z z0 z1 => ⟨hp _ (by omega) (by omega), h31 _ (by omega) (by omega)⟩
    have e0 : V' (A 15) 0 (30 * v) = V0 (A 15) 0 (30 * v) := hp _ (by omega) (by omega)
    refine ⟨⟨by rw [e0, (e1 29 (by decide) (by decide)).2]; exact s1, by rw [e0]; exact s2, by rw [(e1 1 (by decide) (by decide)).1, (e1 27 (by decide) (by decide)).2]; exact s3, by rw [(e1 2 (by decide) (by decide)).1, (e1 28 (by decide) (by decide)).2]; exact s4, fun c c0 c9 => ?_⟩, fe_kg (fe_mv hf (fun z z0 z1 => (e1 z z0 (by omega)).2)) s6⟩
    rw [(e1 (3 + c) (by omega) (by omega)).1, (e1 (12 + c) (by omega) (by omega)).1, (e1 (21 + c) (by omega) (by omega)).1, (e1 (9 + c) (by omega) (by omega)).2, (e1 (18 + c) (by omega) (by omega)).2, (e1 c (by omega) (by omega)).2]
    exact s5 c c0 c9
/-- what the class has put aside -/
def sv (A : Nat → Int) (V0 V : dV) : Prop := fe (V0 (A 4)) (V (A 16)) ∧ (∀ z, 0 ≤ z → z < 480 → V (A 15) 1 z = V0 (A 15) 0 z) ∧ V (A 15) 3 0 = V0 (A 15) 4 0
theorem c_save (hA : inj A) (hG : G A V) : ∃ V', f_X4_save V (A 15) (A 4) = (V', 0) ∧ sv A V V' ∧ ∀ b m z, ¬ (b = A 16 ∧ m ≤ 10) → ¬ (b = A 15 ∧ (m = 1 ∨ m = 3)) → V' b m z = V b m z := by
  have g2 : V (A 15) 2 0 = A 16 := hG.2.2.1
  obtain ⟨V1, e1, f1, h1⟩ := c_copy (V := V) (d := A 16) (s := A 4) (inj_n hA (by decide) (by decide) (by decide))
  have n : A 15 ≠ A 16 := inj_n hA (by decide) (by decide) (by decide)
  have n' := Ne.symm n
  have v15 : ∀ m z, V1 (A 15) m z = V (A 15) m z := fun m z => f1 _ m z (fun q => n q.1)
  have k16 : ∀ v m z, dv_u (dv_c V1 (A 15) 0 0 (A 15) 1 0 480) (A 15) 3 0 v (A 16) m z = V1 (A 16) m z := fun v m z => by rw [u_b n', cp_b n']
  unfold f_X4_save
  rw [bq, g2, dv_bn2 e1, bq, bq, bq, bq]
  refine ⟨_, rfl, ⟨?_, fun z z0 z1 => ?_, ?_⟩, fun b m z h16 h15 => ?_⟩
  · have e : dv_u (dv_c V1 (A 15) 0 0 (A 15) 1 0 480) (A 15) 3 0 (dv_c V1 (A 15) 0 0 (A 15) 1 0 480 (A 15) 4 0) (A 16) = V1 (A 16) := funext fun m => funext fun z => k16 _ m z
    rw [e]; exact h1
  · rw [u_j (by decide), cp_in (by omega), v15, show (0 : Int) + (z - 0) = z by omega]
  · rw [u_e, cp_j (by decide), v15]
  · by_cases q : b = A 15
    · have m3 : m ≠ 3 := fun w => h15 ⟨q, Or.inr w⟩
      have m1 : m ≠ 1 := fun w => h15 ⟨q, Or.inl w⟩
      rw [u_j m3, cp_j m1]
      exact f1 b m z (fun w => n (q.symm.trans w.1))
    · rw [u_b q, cp_b q]
      exact f1 b m z (fun w => h16 ⟨w.1, w.2.1⟩)
theorem c_restore (hA : inj A) (hG : G A V) (h : sv A V0 V) : ∃ V', f_X4_restore V (A 15) (A 4) = (V', 0) ∧ cf A (fun i m => i == 4 || (i == 15 && (m == 0 || m == 4))) V V' ∧ fe (V0 (A 4)) (V' (A 4)) ∧ (∀ z, 0 ≤ z → z < 480 → V' (A 15) 0 z = V0 (A 15) 0 z) ∧ V' (A 15) 4 0 = V0 (A 15) 4 0 := by
  obtain ⟨h1, h2, h3⟩ := h
  have g2 : V (A 15) 2 0 = A 16 := hG.2.2.1
  obtain ⟨V1, e1, f1, k1⟩ := c_copy (V := V) (d := A 4) (s := A 16) (inj_n hA (by decide) (by decide) (by decide))
  have n : A 15 ≠ A 4 := inj_n hA (by decide) (by decide) (by decide)
  have n' := Ne.symm n
  have v15 : ∀ m z, V1 (A 15) m z = V (A 15) m z := fun m z => f1 _ m z (fun q => n q.1)
  unfold f_X4_restore
  rw [bq, g2, dv_bn2 e1, bq, bq, bq, bq]
  refine ⟨_, rfl, fun i m z hi hm hL => ?_, ?_, fun z z0 z1 => ?_, ?_⟩
  · simp only [Bool.or_eq_false_iff, Bool.and_eq_false_iff, beq_eq_false_iff_ne, ne_eq] at hL
    have q4 : A i ≠ A 4 := fun w => by have := hA.1 i 4 hi (by decide) w; omega
    by_cases q : A i = A 15
    · have := hA.1 i 15 hi (by decide) q
      rw [u_j (by omega), cp_j (by omega)]
      exact f1 _ m z (fun w => q4 w.1)
    · rw [u_b q, cp_b q]
      exact f1 _ m z (fun w => q4 w.1)
  · have e : dv_u (dv_c V1 (A 15) 1 0 (A 15) 0 0 480) (A 15) 4 0 (dv_c V1 (A 15) 1 0 (A 15) 0 0 480 (A 15) 3 0) (A 4) = V1 (A 4) := funext fun m => funext fun z => by rw [u_b n', cp_b n']
    rw [e]
    exact fe_t h1 k1
  · rw [u_j (by decide), cp_in (by omega), v15, show (0 : Int) + (z - 0) = z by omega]
    exact h2 z z0 z1
  · rw [u_e, cp_j (by decide), v15]
    exact h3
/-- what the reference has put aside -/
theorem m_aside : ∃ W', f_X12_laysAside W a p = (W', 0) ∧ (∀ b m z, ¬ (b = a ∧ m = 5) → W' b m z = W b m z) ∧ (∀ i, 0 ≤ i → i < 29 → W' a 5 (29 * p + i) = W a 2 i) ∧ ∀ z, ¬ (29 * p ≤ z ∧ z < 29 * p + 29) → W' a 5 z = W a 5 z := by
  unfold f_X12_laysAside
  refine dv_inv (P := fun s => ∃ (U : dV) (j : Int), s = (U, a, p, j) ∧ 0 ≤ j ∧ j ≤ 29 ∧ (∀ b m z, ¬ (b = a ∧ m = 5) → U b m z = W b m z) ∧ (∀ i, 0 ≤ i → i < j → U a 5 (29 * p + i) = W a 2 i) ∧ ∀ z, ¬ (29 * p ≤ z ∧ z < 29 * p + 29) → U a 5 z = W a 5 z) (Q := fun q => ∃ W' : dV, q = (W', 0) ∧ (∀ b m z, ¬ (b = a ∧ m = 5) → W' b m z = W b m z) ∧ (∀ i, 0 ≤ i → i < 29 → W' a 5 (29 * p + i) = W a 2 i) ∧ ∀ z, ¬ (29 * p ≤ z ∧ z < 29 * p + 29) → W' a 5 z = W a 5 z) (m := fun s => (29 - s.2.2.2).toNat) ?_ _ ⟨W, 0, rfl, by decide, by decide, fun _ _ _ _ => rfl, fun i i0 i1 => absurd i1 (by omega), fun _ _ => rfl⟩
  rintro q ⟨U, j, rfl, j0, j1, hf, hi, hz⟩
  rw [f_X12_laysAside_2e]
  unfold f_X12_laysAside_2c
  by_cases e : 29 ≤ j
  · rw [if_pos e]
    exact Or.inr ⟨_, rfl, U, rfl, hf, fun i i0 i1 => hi i i0 (by omega), hz⟩
  · rw [if_neg e, bq, bq, bq, bq, bq]
    refine Or.inl ⟨_, rfl, ⟨_, j + 1, rfl, by omega, by omega, fun b m z hb => ?_, fun i i0 i1 => ?_, fun z hz' => ?_⟩, by dsimp only; omega⟩
    · by_cases q : b = a
      · rw [u_j (fun w => hb ⟨q, w⟩)]; exact hf b m z hb
      · rw [u_b q]; exact hf b m z hb
    · rw [u_if]
      by_cases q : i = j
      · subst q
        rw [if_pos rfl]; exact hf a 2 i (fun q => absurd q.2 (by decide))
      · rw [if_neg (by omega)]; exact hi i i0 (by omega)
    · rw [u_i (by omega)]; exact hz z hz'
theorem m_takes : ∃ W', f_X12_takesBack W a p = (W', 0) ∧ (∀ b m z, ¬ (b = a ∧ m = 2) → W' b m z = W b m z) ∧ (∀ i, 0 ≤ i → i < 29 → W' a 2 i = W a 5 (29 * p + i)) ∧ ∀ z, ¬ (0 ≤ z ∧ z < 29) → W' a 2 z = W a 2 z := by
  unfold f_X12_takesBack
  refine dv_inv (P := fun s => ∃ (U : dV) (j : Int), s = (U, a, p, j) ∧ 0 ≤ j ∧ j ≤ 29 ∧ (∀ b m z, ¬ (b = a ∧ m = 2) → U b m z = W b m z) ∧ (∀ i, 0 ≤ i → i < j → U a 2 i = W a 5 (29 * p + i)) ∧ ∀ z, ¬ (0 ≤ z ∧ z < 29) → U a 2 z = W a 2 z) (Q := fun q => ∃ W' : dV, q = (W', 0) ∧ (∀ b m z, ¬ (b = a ∧ m = 2) → W' b m z = W b m z) ∧ (∀ i, 0 ≤ i → i < 29 → W' a 2 i = W a 5 (29 * p + i)) ∧ ∀ z, ¬ (0 ≤ z ∧ z < 29) → W' a 2 z = W a 2 z) (m := fun s => (29 - s.2.2.2).toNat) ?_ _ ⟨W, 0, rfl, by decide, by decide, fun _ _ _ _ => rfl, fun i i0 i1 => absurd i1 (by omega), fun _ _ => rfl⟩
  rintro q ⟨U, j, rfl, j0, j1, hf, hi, hz⟩
  rw [f_X12_takesBack_2e]
  unfold f_X12_takesBack_2c
  by_cases e : 29 ≤ j
  · rw [if_pos e]
    exact Or.inr ⟨_, rfl, U, rfl, hf, fun i i0 i1 => hi i i0 (by omega), hz⟩
  · rw [if_neg e, bq, bq, bq, bq, bq]
    refine Or.inl ⟨_, rfl, ⟨_, j + 1, rfl, by omega, by omega, fun b m z hb => ?_, fun i i0 i1 => ?_, fun z hz' => ?_⟩, by dsimp only; omega⟩
    · by_cases q : b = a
      · rw [u_j (fun w => hb ⟨q, w⟩)]; exact hf b m z hb
      · rw [u_b q]; exact hf b m z hb
    · rw [u_if]
      by_cases q : i = j
      · subst q
        rw [if_pos rfl]; exact hf a 5 _ (fun q => absurd q.2 (by decide))
      · rw [if_neg (by omega)]; exact hi i i0 (by omega)
    · rw [u_i (by omega)]; exact hz z hz'
end QTH
section QTI
variable {V V' V0 V1 V2 U U1 W W' W0 W1 W2 : dV} {a c z t k s p x y u o r B P i j m m' live ns D zz1 zz2 v τ N : Int} {A : Nat → Int} {w cd vl X M g : Int → Int} {S T S0 S1 S2 : dn}
theorem oc_t (h : oc cd vl i j X M s ns S0 S1 S2 T) : 1 ≤ M 1 ∧ M 1 ≤ 20 := by
  obtain ⟨-, -, -, -, -, m, m', -, -, -, -, hM, -⟩ := h
  rcases hM with ⟨-, -, b3⟩ | ⟨-, -, -, b4, -, b6⟩
  · omega
  · omega
theorem oc_lt (h : oc cd vl i j X M s ns S0 S1 S2 T) : i < j := by
  obtain ⟨-, -, -, -, -, m, m', l1, l2, l3, -⟩ := h
  omega
theorem oc_V (h : oc cd vl i j (V (A 11) 0) (fun k => V (A 11) 1 (c * 8 + k)) (V (A 11) 2 0) ns S0 S1 S2 T) (hU : ∀ m z, V' (A 11) m z = V (A 11) m z) : oc cd vl i j (V' (A 11) 0) (fun k => V' (A 11) 1 (c * 8 + k)) (V' (A 11) 2 0) ns S0 S1 S2 T := by
  rw [show V' (A 11) 0 = V (A 11) 0 from funext (hU 0), show V' (A 11) 1 = V (A 11) 1 from funext (hU 1), hU]
  exact h
theorem OF_11 (hA : inj A) (h : OF A a V W V' W') (m : Nat) (z : Int) : V' (A 11) m z = V (A 11) m z := h.1 _ m z (fun q => inj_n hA (by decide) (by decide) (by decide) q.1) (fun q => inj_n hA (by decide) (by decide) (by decide) q.1) (fun q => inj_n hA (by decide) (by decide) (by decide) q.1) (fun q => inj_n hA (by decide) (by decide) (by decide) q.1)
/-- the text of orders in the reference -/
def ot (cd vl : Int → Int) (a B P : Int) (W : dV) : Prop := (∀ i, 0 ≤ i → cd i = if B + i < P then W a 2 (80 + (B + i)) else 0) ∧ ∀ i, 0 ≤ i → vl i = W a 2 (2880 + (B + i))
theorem ot_c (h : ot cd vl a B P W) (hB : 0 ≤ B) (h2 : ∀ z, 29 ≤ z → W' a 2 z = W a 2 z) : ot cd vl a B P W' := ⟨fun i i0 => by rw [h2 _ (by omega)]; exact h.1 i i0, fun i i0 => by rw [h2 _ (by omega)]; exact h.2 i i0⟩
/-- what the class does when a run fails -/
def cfail (A : Nat → Int) (c : Int) (V' : dV) (r : dR) : Prop := ∃ V5, f_X4_restore V' (A 15) (A 4) = (V5, 0) ∧ f_X11_answer (dv_u V5 (A 0) 17 0 c) (A 0) (-3) = r
/-- all the runs of a clause -/
theorem run_loop (c0 : 0 ≤ c) (c1 : c ≤ 11) (i0 : 0 ≤ i) (hB : 0 ≤ B) (hP : i < P) : ∀ (n : Nat) (q D : Int) (V W : dV), (n : Int) = τ - q → RR A a V W → wd A a V W D → 0 ≤ D → D + n ≤ 900 → oc cd vl i j (V (A 11) 0) (fun k => V (A 11) 1 (c * 8 + k)) (V (A 11) 2 0) ns S0 S1 S2 T → ot cd vl a B P W → W a 48 0 = B + i → ∃ (V' W' : dV), RR A a V' W' ∧ OF A a V W V' W' ∧ ((dv_lp f_X11_orders_107b (V, τ, A 0, c, q) = Sum.inl (V', A 0, c + 1) ∧ dv_lp f_X12_runs_19b (W, zz2, τ, a, P, q) = (dv_u W' a 48 0 zz2, 1) ∧ wd A a V' W' (D + n)) ∨ ((∀ r, cfail A c V' r → dv_lp f_X11_orders_107b (V, τ, A 0, c, q) = Sum.inr r) ∧ dv_lp f_X12_runs_19b (W, zz2, τ, a, P, q) = (W', 0))) := by
  intro n
  induction n with
  | zero =>
    intro q D V W hn h hd _ _ _ _ _
    refine ⟨V, W, h, OF_r, Or.inl ⟨dv_lp_e ?_, dv_lp_e ?_, by rw [show D + ((0 : Nat) : Int) = D by omega]; exact hd⟩⟩
    · rw [f_X11_orders_107e]
      unfold f_X11_orders_107c
      rw [if_pos (by omega), bq]
    · rw [f_X12_runs_19e]
      unfold f_X12_runs_19c
      rw [if_pos (by omega), bq]
  | succ n ih =>
    intro q D V W hn h hd hD hDn hoc ht h48
    obtain ⟨V1, W1, y, e1, R1, O1, k48, hy⟩ := one_run (zz1 := τ) (zz2 := zz2) (q := q) h hd ⟨hD, by omega⟩ c0 c1 hoc i0 ht.1 ht.2 h48 (by omega)
    rcases hy with ⟨rfl, e2, d2⟩ | ⟨rfl, e2⟩
    · obtain ⟨V2, W2, R2, O2, hz⟩ := ih (q + 1) (D + 1) V1 W1 (by omega) R1 d2 (by omega) (by omega) (oc_V hoc (OF_11 h.1 O1)) (ot_c ht hB O1.2.2.2) k48
      have st : f_X11_orders_107b (V, τ, A 0, c, q) = Sum.inl (V1, τ, A 0, c, q + 1) := by
        rw [f_X11_orders_107e]
        unfold f_X11_orders_107c
        rw [if_neg (by omega), dv_bn2 e1, if_pos (by decide), bq]
      refine ⟨V2, W2, R2, OF_t O1 O2, ?_⟩
      rw [dv_lp_s st, dv_lp_s e2]
      rcases hz with ⟨z1, z2, z3⟩ | hz
      · exact Or.inl ⟨z1, z2, by rw [show D + ((n + 1 : Nat) : Int) = D + 1 + (n : Int) by omega]; exact z3⟩
      · exact Or.inr hz
    · refine ⟨V1, W1, R1, O1, Or.inr ⟨fun r ⟨V5, f1, f2⟩ => dv_lp_e ?_, dv_lp_e e2⟩⟩
      obtain ⟨g0, g1, g10, -⟩ := RR_G R1
      obtain ⟨r1, r2⟩ := r
      rw [f_X11_orders_107e]
      unfold f_X11_orders_107c
      rw [if_neg (by omega), dv_bn2 e1, if_neg (fun q => q rfl), bq, g10, bq, g0, bq, g1, dv_bn2 f1, bq, dv_bn2 f2]
/-- a clause, in both -/
theorem clause_step (c0 : 0 ≤ c) (c1 : c ≤ 11) (i0 : 0 ≤ i) (hB : 0 ≤ B) (hP : B + i < P) (h : RR A a V W) (hd : wd A a V W D) (hD : 0 ≤ D) (hDn : D + 20 ≤ 900) (hoc : oc cd vl i j (V (A 11) 0) (fun k => V (A 11) 1 (c * 8 + k)) (V (A 11) 2 0) ns S0 S1 S2 T) (ht : ot cd vl a B P W) (h48 : W a 48 0 = B + i) (h3 : c < V (A 11) 3 0) : ∃ (V' W' : dV), RR A a V' W' ∧ OF A a V W V' W' ∧ ((f_X11_orders_84b (V, A 0, c) = Sum.inl (V', A 0, c + 1) ∧ f_X12_orders_95b (W, P, zz1, a, c) = Sum.inl (W', P, zz1, a, c + 1) ∧ W' a 48 0 = B + (j + 1) ∧ wd A a V' W' (D + 20)) ∨ ((∀ r, cfail A c V' r → f_X11_orders_84b (V, A 0, c) = Sum.inr r) ∧ ∀ W5, f_X12_takesBack W' a 1 = (W5, 0) → f_X12_orders_95b (W, P, zz1, a, c) = dv_lp f_X12_orders_122b (W5, zz1, a, c, 0))) := by
  have hA := h.1
  obtain ⟨d1, d2, d3, d4⟩ := id hd
  have kk := (RR_n h).1
  have g7 : V (A 0) 7 0 = A 11 := h.2.1.1.2.2.2.2.2.2.2.1
  obtain ⟨t1, t20⟩ := oc_t hoc
  have t1 : 1 ≤ V (A 11) 1 (c * 8 + 1) := t1
  have t20 : V (A 11) 1 (c * 8 + 1) ≤ 20 := t20
  have ow1 := RR_ow h
  have hw := wo_b kk (dn := W a 27 0) (lt := W a 28 0) (by omega) (by omega)
  obtain ⟨W1, e1, f1, g1, -, k49, -⟩ := m_goes (live := 0) (P := P) hoc i0 ht.1 ht.2 ow1 h48 hw
  have k49 : W1 a 49 0 = V (A 11) 1 (c * 8 + 1) := k49
  have G1 : ∀ b m z, ¬ (b = a ∧ ((22 ≤ m ∧ m ≤ 28) ∨ (48 ≤ m ∧ m ≤ 53))) → W1 b m z = W b m z := fun b m z q => f1 b m z (fun e => q ⟨e.1, by omega⟩)
  have FV : ∀ b m z, ¬ (b = A 12 ∧ m ≤ 3) → V b m z = V b m z := fun _ _ _ _ => rfl
  have R1 := RR_oc h FV G1
  have O1 := OF_o (a := a) hA FV G1
  have w27 : W1 a 27 0 = W a 27 0 := f1 a 27 0 (fun q => absurd q.2 (by omega))
  have w28 : W1 a 28 0 = W a 28 0 := f1 a 28 0 (fun q => absurd q.2 (by omega))
  have w48 : W1 a 48 0 = B + i := by rw [f1 a 48 0 (fun q => absurd q.2 (by omega)), h48]
  have D1 : wd A a V W1 D := ⟨by rw [w27]; exact d1, by rw [w28]; exact d2, by rw [w27]; exact d3, by rw [w28]; exact d4⟩
  obtain ⟨V2, W2, R2, O2, hz⟩ := run_loop (τ := V (A 11) 1 (c * 8 + 1)) (zz2 := B + (j + 1)) c0 c1 i0 hB (show i < P by omega) (V (A 11) 1 (c * 8 + 1)).toNat 0 D V W1 (by omega) R1 D1 hD (by omega) hoc (ot_c ht hB O1.2.2.2) w48
  have EV : f_X11_orders_84b (V, A 0, c) = dv_lp f_X11_orders_107b (V, V (A 11) 1 (c * 8 + 1), A 0, c, 0) := by
    rw [f_X11_orders_84e]
    unfold f_X11_orders_84c
    rw [bq, g7, bq, if_neg (by omega), bq, dv_bn2 (q_mark c0 c1 (by decide) (by decide))]
  have ER : ∀ (W3 : dV) (y : Int), dv_lp f_X12_runs_19b (W1, B + (j + 1), V (A 11) 1 (c * 8 + 1), a, P, 0) = (W3, y) → f_X12_runs W a P = (W3, y) := fun W3 y e => by
    unfold f_X12_runs
    rw [dv_bn2 e1, bq, bq, k49, g1]
    exact e
  have EW : ∀ (W3 : dV) (y : Int), f_X12_runs W a P = (W3, y) → f_X12_orders_95b (W, P, zz1, a, c) = if y = 0 then dv_b2 (f_X12_takesBack W3 a 1) fun V116 _ => dv_lp f_X12_orders_122b (V116, zz1, a, c, 0) else Sum.inl (W3, P, zz1, a, c + 1) := fun W3 y e => by
    rw [f_X12_orders_95e]
    unfold f_X12_orders_95c
    rw [bq, h48, if_neg (by omega), dv_bn2 e, dv_add_ok (by omega) (by omega) (by omega) (by omega) (by omega) (by omega)]
    rfl
  rcases hz with ⟨z1, z2, z3⟩ | ⟨z1, z2⟩
  · have GW : ∀ b m z, ¬ (b = a ∧ ((22 ≤ m ∧ m ≤ 28) ∨ (48 ≤ m ∧ m ≤ 53))) → dv_u W2 a 48 0 (B + (j + 1)) b m z = W2 b m z := fun b m z q => by
      unfold dv_u; rw [if_neg (fun e => q ⟨e.1, by rw [e.2.1]; decide⟩)]
    have FV2 : ∀ b m z, ¬ (b = A 12 ∧ m ≤ 3) → V2 b m z = V2 b m z := fun _ _ _ _ => rfl
    refine ⟨V2, dv_u W2 a 48 0 (B + (j + 1)), RR_oc R2 FV2 GW, OF_t (OF_t O1 O2) (OF_o hA FV2 GW), Or.inl ⟨by rw [EV, z1], by rw [EW _ _ (ER _ _ z2), if_neg (by decide)], u_e, ?_⟩⟩
    obtain ⟨p1, p2, p3, p4⟩ := z3
    exact ⟨by rw [u_j (by decide)]; exact p1, by rw [u_j (by decide)]; exact p2, by rw [u_j (by decide)]; omega, by rw [u_j (by decide)]; exact p4⟩
  · refine ⟨V2, W2, R2, OF_t O1 O2, Or.inr ⟨fun r hr => by rw [EV, z1 r hr], fun W5 h5 => ?_⟩⟩
    rw [EW _ _ (ER _ _ z2), if_pos rfl, dv_bn2 h5]
end QTI
section QTJ
variable {V V' V0 V1 V2 U U1 W W' W0 W1 W2 : dV} {a z t k s p x y u o r B P i j live ns D zz1 zz2 v τ N n c : Int} {A : Nat → Int} {w cd vl X M g : Int → Int} {S T S0 S1 S2 : dn} {pos : Nat → Int}
theorem tx_c_pos : ∀ (n : Nat) (i : Int), tx_c o cd vl X M s n i → ∃ pos : Nat → Int, pos 0 = 0 ∧ pos n = i ∧ (∀ c, c ≤ n → 0 ≤ pos c ∧ pos c ≤ i) ∧ ∀ c, c < n → pos c < pos (c + 1) - 1 ∧ cl_ok o cd vl (pos c) (pos (c + 1) - 1) X (fun w => M ((c : Int) * 8 + w)) s := by
  intro n
  induction n with
  | zero =>
    intro i h
    have h : i = 0 := h
    subst h
    exact ⟨fun _ => 0, rfl, rfl, fun _ _ => ⟨Int.le_refl _, Int.le_refl _⟩, fun c hc => absurd hc (by omega)⟩
  | succ n ih =>
    rintro i ⟨b, e, h1, h2, h3, h4, rfl⟩
    obtain ⟨pos, p0, pn, pb, pc⟩ := ih b h1
    refine ⟨fun k => if k ≤ n then pos k else e + 1, by dsimp only; rw [if_pos (by omega)]; exact p0, by dsimp only; rw [if_neg (by omega)], fun c hc => ?_, fun c hc => ?_⟩
    · dsimp only
      by_cases q : c ≤ n
      · rw [if_pos q]
        have := pb c q
        omega
      · rw [if_neg q]
        have := (pb n (Nat.le_refl _))
        omega
    · dsimp only
      rw [if_pos (show c ≤ n by omega)]
      by_cases q : c + 1 ≤ n
      · rw [if_pos q]
        exact pc c (by omega)
      · rw [if_neg q]
        have : c = n := by omega
        subst this
        rw [pn, show e + 1 - 1 = e by omega]
        exact ⟨h2, h3⟩
theorem tx_pos (h : tx_ok o cd vl X M s N n) : (1 ≤ n ∧ n ≤ 12) ∧ ∃ pos : Nat → Int, pos 0 = 0 ∧ pos n.toNat = N + 1 ∧ ∀ c : Nat, (c : Int) < n → 0 ≤ pos c ∧ pos c < N ∧ cl_ok o cd vl (pos c) (pos (c + 1) - 1) X (fun w => M ((c : Int) * 8 + w)) s := by
  obtain ⟨m, b, rfl, h1, h2, h3, h4⟩ := h
  obtain ⟨pos, p0, pn, pb, pc⟩ := tx_c_pos m b h2
  refine ⟨by omega, fun k => if k ≤ m then pos k else N + 1, by dsimp only; rw [if_pos (by omega)]; exact p0, by dsimp only; rw [if_neg (by omega)], fun c hc => ?_⟩
  dsimp only
  rw [if_pos (show c ≤ m by omega)]
  have hb := pb c (by omega)
  refine ⟨hb.1, by omega, ?_⟩
  by_cases q : c + 1 ≤ m
  · rw [if_pos q]
    exact (pc c (by omega)).2
  · rw [if_neg q]
    have : c = m := by omega
    subst this
    rw [pn, show N + 1 - 1 = N by omega]
    exact h4
/-- where it failed, in both -/
theorem RR_ta (h : RR A a V W) : RR A a (dv_u V (A 0) 17 0 y) (dv_u W a 47 0 y) := by
  have hA := h.1
  obtain ⟨h1, h2, h3, h4, h5, h6, h7, h8, h9, h10⟩ := h
  have f : cf A (fun i m => i == 0 && m == 17) V (dv_u V (A 0) 17 0 y) := cf_u hA (by decide) rfl
  have g : wf a (fun m => m == 47) W (dv_u W a 47 0 y) := wf_u rfl
  exact ⟨h1, G_c h2 (cf_ag f rfl), stR_c (by decide) h3 (cf_ag f rfl) (fun z _ => g 2 _ rfl), imR_c h4 (cf_ag f rfl) (fun z => g 3 z rfl) (fun z => g 4 z rfl), tpR_c h5 (cf_ag f rfl) (fun z => g 11 z rfl) (g 13 0 rfl), psR_c h6 (cf_ag f rfl) (fun z => g 31 z rfl) (g 33 0 rfl), ppR_c h7 (cf_ag f rfl) (fun z => g 54 z rfl) (g 55 0 rfl), miR_c h8 (cf_ag f rfl) (g 0 0 rfl) (fun z => g 1 z rfl), ⟨(u_j (by decide)).trans (h9.1.trans (g 14 0 rfl).symm), (u_j (by decide)).trans (h9.2.1.trans (g 6 0 rfl).symm), by rw [u_e, u_e]⟩, rdR_c h10 (fun z => f 10 1 z (by decide) (by decide) rfl) (fun z _ => f 14 1 z (by decide) (by decide) rfl) (fun z => g 7 z rfl) (fun z => g 17 z rfl)⟩
/-- what the reference has put aside -/
def mv (a : Int) (W0 W : dV) : Prop := (∀ i, 0 ≤ i → i < 29 → W a 5 (29 * 1 + i) = W0 a 2 i) ∧ (∀ z, 0 ≤ z → z < 480 → W a 32 z = W0 a 31 z) ∧ ∀ z, (29 ≤ z ∧ z < 47) ∨ (65 ≤ z ∧ z < 70) → W a 2 z = W0 a 2 z
theorem mv_c (h : mv a W0 W) (f : OF A a V W V' W') : mv a W0 W' := ⟨fun i i0 i1 => by rw [f.2.2.1 a 5 _ (fun q => absurd q.2 (by omega))]; exact h.1 i i0 i1, fun z z0 z1 => by rw [f.2.2.1 a 32 _ (fun q => absurd q.2 (by omega))]; exact h.2.1 z z0 z1, fun z hz => by rw [f.2.2.2 z (by omega)]; exact h.2.2 z hz⟩
theorem sv_c (hA : inj A) (h : sv A V0 V) (f : OF A a V W V' W') : sv A V0 V' := by
  have e16 : V' (A 16) = V (A 16) := funext fun m => funext fun z => f.1 _ m z (fun q => inj_n hA (by decide) (by decide) (by decide) q.1) (fun q => inj_n hA (by decide) (by decide) (by decide) q.1) (fun q => inj_n hA (by decide) (by decide) (by decide) q.1) (fun q => inj_n hA (by decide) (by decide) (by decide) q.1)
  have e15 : ∀ m z, m ≠ 0 → m ≠ 4 → V' (A 15) m z = V (A 15) m z := fun m z m0 m4 => f.1 _ m z (fun q => inj_n hA (by decide) (by decide) (by decide) q.1) (fun q => inj_n hA (by decide) (by decide) (by decide) q.1) (fun q => by have := q.2; omega) (fun q => inj_n hA (by decide) (by decide) (by decide) q.1)
  refine ⟨by rw [e16]; exact h.1, fun z z0 z1 => by rw [e15 1 z (by decide) (by decide)]; exact h.2.1 z z0 z1, by rw [e15 3 0 (by decide) (by decide)]; exact h.2.2⟩
theorem m_122 : ∃ W6 : dV, (∀ b m z, ¬ (b = a ∧ m = 31) → W6 b m z = W b m z) ∧ (∀ z, 0 ≤ z → z < 480 → W6 a 31 z = W a 32 z) ∧ ∀ r, f_X12_refuses (dv_u (dv_u W6 a 33 0 zz1) a 47 0 c) a (-3) = r → dv_lp f_X12_orders_122b (W, zz1, a, c, 0) = Sum.inr (Sum.inr r) := by
  refine dv_inv (b := f_X12_orders_122b) (P := fun q => ∃ (U : dV) (j : Int), q = (U, zz1, a, c, j) ∧ 0 ≤ j ∧ j ≤ 480 ∧ (∀ b m z, ¬ (b = a ∧ m = 31) → U b m z = W b m z) ∧ ∀ z, 0 ≤ z → z < j → U a 31 z = W a 32 z) (Q := fun q => ∃ W6 : dV, (∀ b m z, ¬ (b = a ∧ m = 31) → W6 b m z = W b m z) ∧ (∀ z, 0 ≤ z → z < 480 → W6 a 31 z = W a 32 z) ∧ ∀ r, f_X12_refuses (dv_u (dv_u W6 a 33 0 zz1) a 47 0 c) a (-3) = r → q = Sum.inr (Sum.inr r)) (m := fun q => (480 - q.2.2.2.2).toNat) ?_ _ ⟨W, 0, rfl, by decide, by decide, fun _ _ _ _ => rfl, fun z z0 z1 => absurd z1 (by omega)⟩
  rintro q ⟨U, j, rfl, j0, j1, hf, hz⟩
  rw [f_X12_orders_122e]
  unfold f_X12_orders_122c
  by_cases e : 480 ≤ j
  · rw [if_pos e, bq, bq]
    refine Or.inr ⟨_, rfl, U, hf, fun z z0 z1 => hz z z0 (by omega), fun r hr => ?_⟩
    obtain ⟨r1, r2⟩ := r
    rw [hr]
  · rw [if_neg e, bq, bq, bq]
    refine Or.inl ⟨_, rfl, ⟨_, j + 1, rfl, by omega, by omega, fun b m z hb => ?_, fun z z0 z1 => ?_⟩, by dsimp only; omega⟩
    · by_cases q : b = a
      · rw [u_j (fun w => hb ⟨q, w⟩)]; exact hf b m z hb
      · rw [u_b q]; exact hf b m z hb
    · rw [u_if]
      by_cases q : z = j
      · subst q
        rw [if_pos rfl]; exact hf a 32 _ (fun q => absurd q.2 (by decide))
      · rw [if_neg q]; exact hz z z0 (by omega)
/-- orders fail in both -/
theorem ord_fail (h : RR A a V W) (h0 : RR A a V0 W0) (hs : sv A V0 V) (hm : mv a W0 W) (hz : zz1 = W0 a 33 0) : ∃ (V' W' : dV) (u : Int), cfail A c V (V', u) ∧ (∃ W5, f_X12_takesBack W a 1 = (W5, 0) ∧ dv_lp f_X12_orders_122b (W5, zz1, a, c, 0) = Sum.inr (Sum.inr (W', u))) ∧ RR A a V' W' := by
  obtain ⟨V5, e1, f1, k1, k2, k3⟩ := c_restore h.1 h.2.1 hs
  obtain ⟨W5, e2, f2, l1, l2⟩ := m_takes (W := W) (a := a) (p := 1)
  obtain ⟨W6, f3, l3, e3⟩ := m_122 (W := W5) (a := a) (zz1 := zz1) (c := c)
  have w7 : ∀ m z, m ≠ 33 → dv_u W6 a 33 0 zz1 a m z = W6 a m z := fun m z hm => u_j hm
  have R : RR A a V5 (dv_u W6 a 33 0 zz1) := by
    refine RR_back h h0 f1 (fun m z hM => ?_) (fun z hz => ?_) (fun z hz => ?_) k1 k2 k3 (fun z z0 z1 => ?_) (by rw [u_e, hz])
    · simp only [Bool.or_eq_false_iff, beq_eq_false_iff_ne, ne_eq] at hM
      rw [w7 m z (by omega), f3 a m z (fun q => by have := q.2; omega), f2 a m z (fun q => by have := q.2; omega)]
    · rw [w7 2 z (by decide), f3 a 2 z (fun q => absurd q.2 (by decide)), l2 z (by omega)]
    · rw [w7 2 z (by decide), f3 a 2 z (fun q => absurd q.2 (by decide))]
      by_cases q : z < 29
      · rw [l1 z (by omega) q]
        exact hm.1 z (by omega) q
      · rw [l2 z (by omega)]
        exact hm.2.2 z (by omega)
    · rw [w7 31 z (by decide), l3 z z0 z1, f2 a 32 z (fun q => absurd q.2 (by decide))]
      exact hm.2.1 z z0 z1
  obtain ⟨V8, W8, r1, r2, r3⟩ := RR_bad (k := -3) (RR_ta (y := c) R) (Or.inr (Or.inr (Or.inl ⟨rfl, rfl, rfl⟩)))
  exact ⟨V8, W8, -3, ⟨V5, e1, r1⟩, ⟨W5, e2, e3 _ r2⟩, r3⟩
/-- all clauses -/
theorem ord_loop (h0 : RR A a V0 W0) (hz : zz1 = W0 a 33 0) (hn : n ≤ 12) (hB : 0 ≤ B) (pn : pos n.toNat = N + 1) (hN : 0 ≤ N) : ∀ (k c : Nat) (D : Int) (V W : dV), (c : Int) + k = n → RR A a V W → wd A a V W D → 0 ≤ D → D + 20 * k ≤ 900 → sv A V0 V → mv a W0 W → V (A 11) 3 0 = n → (∀ c : Nat, (c : Int) < n → 0 ≤ pos c ∧ pos c < N ∧ cl_ok 1 cd vl (pos c) (pos (c + 1) - 1) (V (A 11) 0) (fun w => V (A 11) 1 ((c : Int) * 8 + w)) (V (A 11) 2 0)) → ot cd vl a B (B + N) W → W a 48 0 = B + pos c → ∃ (V' W' : dV) (u : Int), dv_lp f_X11_orders_84b (V, A 0, (c : Int)) = (V', u) ∧ dv_lp f_X12_orders_95b (W, B + N, zz1, a, (c : Int)) = Sum.inr (W', u) ∧ RR A a V' W' := by
  intro k
  induction k with
  | zero =>
    intro c D V W hc h hd hD hDk hs hm h3 hcl ht h48
    obtain ⟨d1, d2, d3, d4⟩ := hd
    have g7 : V (A 0) 7 0 = A 11 := h.2.1.1.2.2.2.2.2.2.2.1
    have g8 : V (A 0) 8 0 = A 12 := h.2.1.1.2.2.2.2.2.2.2.2.1
    have ec : c = n.toNat := by omega
    obtain ⟨V2, W2, r1, r2, r3⟩ := RR_good (t := W a 27 0) h d3.1
    refine ⟨V2, W2, W a 27 0, dv_lp_e ?_, dv_lp_e ?_, r3⟩
    · rw [f_X11_orders_84e]
      unfold f_X11_orders_84c
      rw [bq, g7, bq, if_pos (by omega), bq, g8, bq, d1, dv_bn2 r1]
    · rw [f_X12_orders_95e]
      unfold f_X12_orders_95c
      rw [bq, h48, ec, pn, if_pos (by omega), bq, dv_bn2 r2]
  | succ k ih =>
    intro c D V W hc h hd hD hDk hs hm h3 hcl ht h48
    obtain ⟨p0, pN, hok⟩ := hcl c (by omega)
    obtain ⟨ns, S0, S1, S2, T, hoc⟩ := oc_of hok
    obtain ⟨V1, W1, R1, O1, hz1⟩ := clause_step (zz1 := zz1) (c := (c : Int)) (by omega) (by omega) p0 hB (by omega) h hd hD (by omega) hoc ht h48 (by omega)
    rcases hz1 with ⟨z1, z2, z3, z4⟩ | ⟨z1, z2⟩
    · have x1 := OF_11 h.1 O1
      obtain ⟨V2, W2, u, y1, y2, y3⟩ := ih (c + 1) (D + 20) V1 W1 (by omega) R1 z4 (by omega) (by omega) (sv_c h.1 hs O1) (mv_c hm O1) (by rw [x1]; exact h3) (fun c hc => by
        rw [show V1 (A 11) 0 = V (A 11) 0 from funext (x1 0), show V1 (A 11) 1 = V (A 11) 1 from funext (x1 1), x1]
        exact hcl c hc) (ot_c ht hB O1.2.2.2) (by rw [z3]; omega)
      exact ⟨V2, W2, u, by rw [dv_lp_s z1]; exact y1, by rw [dv_lp_s z2]; exact y2, y3⟩
    · obtain ⟨V2, W2, u, y1, ⟨W5, y2, y3⟩, y4⟩ := ord_fail (c := (c : Int)) R1 h0 (sv_c h.1 hs O1) (mv_c hm O1) hz
      exact ⟨V2, W2, u, dv_lp_e (z1 _ y1), dv_lp_e (by rw [z2 W5 y2]; exact y3), y4⟩
end QTJ
section QTK
variable {V V' V0 V1 V2 U U1 W W' W0 W1 W2 : dV} {a z t k s p x y u o r : Int} {A : Nat → Int}
theorem dv_to {σ ρ : Type} [Nonempty ρ] {b : σ → Sum σ ρ} (P E : σ → Prop) (m : σ → Nat) (h : ∀ s, P s → E s ∨ ∃ t, b s = .inl t ∧ P t ∧ m t < m s) : ∀ s, P s → ∃ t, E t ∧ P t ∧ dv_lp b s = dv_lp b t := by
  have L : ∀ (n : Nat) (s : σ), m s < n → P s → ∃ t, E t ∧ P t ∧ dv_lp b s = dv_lp b t := by
    intro n
    induction n with
    | zero => intro s hs; exact absurd hs (by omega)
    | succ n ih =>
      intro s hs hp
      rcases h s hp with he | ⟨t, e, pt, lt⟩
      · exact ⟨s, he, hp, rfl⟩
      · obtain ⟨u, eu, pu, e2⟩ := ih t (by omega) pt
        exact ⟨u, eu, pu, (dv_lp_s e).trans e2⟩
  exact fun s hp => L _ s (Nat.lt_succ_self _) hp
theorem m_27 : ∃ Wb : dV, (∀ b m z, ¬ (b = a ∧ m = 32) → Wb b m z = W b m z) ∧ (∀ z, 0 ≤ z → z < 480 → Wb a 32 z = W a 31 z) ∧ dv_lp f_X12_orders_27b (W, a, 0) = dv_lp f_X12_orders_27b (Wb, a, 480) := by
  obtain ⟨q, hE, ⟨U, j, rfl, j0, j1, hf, hz⟩, e⟩ := dv_to (b := f_X12_orders_27b) (P := fun q => ∃ (U : dV) (j : Int), q = (U, a, j) ∧ 0 ≤ j ∧ j ≤ 480 ∧ (∀ b m z, ¬ (b = a ∧ m = 32) → U b m z = W b m z) ∧ ∀ z, 0 ≤ z → z < j → U a 32 z = W a 31 z) (E := fun q => q.2.2 = 480) (m := fun q => (480 - q.2.2).toNat) (fun q hq => by
    obtain ⟨U, j, rfl, j0, j1, hf, hz⟩ := hq
    by_cases e : 480 ≤ j
    · exact Or.inl (by dsimp only; omega)
    · rw [f_X12_orders_27e]
      unfold f_X12_orders_27c
      rw [if_neg e, bq, bq, bq]
      refine Or.inr ⟨_, rfl, ⟨_, j + 1, rfl, by omega, by omega, fun b m z hb => ?_, fun z z0 z1 => ?_⟩, by dsimp only; omega⟩
      · by_cases q : b = a
        · rw [u_j (fun w => hb ⟨q, w⟩)]; exact hf b m z hb
        · rw [u_b q]; exact hf b m z hb
      · rw [u_if]
        by_cases q : z = j
        · subst q
          rw [if_pos rfl]; exact hf a 31 _ (fun q => absurd q.2 (by decide))
        · rw [if_neg q]; exact hz z z0 (by omega)) (W, a, 0) ⟨W, 0, rfl, by decide, by decide, fun _ _ _ _ => rfl, fun z z0 z1 => absurd z1 (by omega)⟩
  have hE : j = 480 := hE
  subst hE
  exact ⟨U, hf, hz, e⟩
theorem m_27e {Wb Wc : dV} {r : dR} (h1 : f_X12_lays Wb a 6 = (Wc, 0)) (h2 : dv_lp f_X12_orders_95b (dv_u (dv_u (dv_u Wc a 27 0 0) a 28 0 (-1)) a 48 0 2400, 2400 + Wc a 2 79, Wb a 33 0, a, 0) = Sum.inr r) : dv_lp f_X12_orders_27b (Wb, a, 480) = r := by
  refine dv_lp_e ?_
  rw [f_X12_orders_27e]
  unfold f_X12_orders_27c
  rw [if_pos (by decide), bq, dv_bn2 h1, bq, bq, bq, bq, bq, u_j (show (2 : Nat) ≠ 48 by decide), u_j (show (2 : Nat) ≠ 28 by decide), u_j (show (2 : Nat) ≠ 27 by decide), bq]
  exact h2
/-- orders begin, in both -/
theorem ord_begin (R : RR A a V W) (h18 : 0 ≤ W a 18 0 ∧ W a 18 0 ≤ 400) (hE : W a 15 (W a 18 0) = 0) (hT : tx_ok 1 (W a 15) (W a 16) (V (A 11) 0) (V (A 11) 1) (V (A 11) 2 0) (W a 18 0) (V (A 11) 3 0)) : ∃ (V' W' : dV) (u : Int) (V3 : dV), f_X4_save V (A 15) (A 4) = (V3, 0) ∧ V3 (A 0) 8 0 = A 12 ∧ dv_lp f_X11_orders_84b (dv_u (dv_u V3 (A 12) 1 1 0) (A 12) 1 2 (-1), A 0, 0) = (V', u) ∧ (∃ Wa, f_X12_laysAside W a 1 = (Wa, 0) ∧ dv_lp f_X12_orders_27b (Wa, a, 0) = (W', u)) ∧ RR A a V' W' := by
  have hA := R.1
  obtain ⟨V3, e1, s1, f1⟩ := c_save hA R.2.1
  obtain ⟨Wa, e2, f2, c2, -⟩ := m_aside (W := W) (a := a) (p := 1)
  obtain ⟨Wb, f3, c3, e3⟩ := m_27 (W := Wa) (a := a)
  have b18 : Wb a 18 0 = W a 18 0 := by rw [f3 a 18 0 (fun q => absurd q.2 (by decide)), f2 a 18 0 (fun q => absurd q.2 (by decide))]
  have b2 : ∀ z, Wb a 2 z = W a 2 z := fun z => by rw [f3 a 2 z (fun q => absurd q.2 (by decide)), f2 a 2 z (fun q => absurd q.2 (by decide))]
  have b31 : ∀ z, Wb a 31 z = W a 31 z := fun z => by rw [f3 a 31 z (fun q => absurd q.2 (by decide)), f2 a 31 z (fun q => absurd q.2 (by decide))]
  obtain ⟨Wc, e4, f4, c79, ctx, cz⟩ := m_lays (W := Wb) (a := a) (t := 6) (by rw [b18]; exact h18) (by decide)
  have c79 : Wc a 2 79 = W a 18 0 := by have := c79; rw [b18] at this; exact this
  have n0 : ∀ q, q < 38 → q ≠ 16 → q ≠ 15 → ∀ m z, V3 (A q) m z = V (A q) m z := fun q hq n1 n2 m z => f1 _ m z (fun w => inj_n hA hq (by decide) n1 w.1) (fun w => inj_n hA hq (by decide) n2 w.1)
  -- the class has saved
  have R3 : RR A a V3 Wb := by
    refine RR_idle R (fun i m z hi hm hL => f1 _ m z (fun q => ?_) (fun q => ?_)) (fun m z hM => ?_) (fun z _ => n0 14 (by decide) (by decide) (by decide) 1 z) (fun m z _ _ => n0 4 (by decide) (by decide) (by decide) m z) (fun z => ⟨f1 _ 0 z (fun w => inj_n hA (by decide) (by decide) (by decide) w.1) (fun w => absurd w.2 (by decide)), f1 _ 4 z (fun w => inj_n hA (by decide) (by decide) (by decide) w.1) (fun w => absurd w.2 (by decide))⟩) b2 b31 ?_
    · have := hA.1 i 16 hi (by decide) q.1
      subst this
      cases hL
    · have := hA.1 i 15 hi (by decide) q.1
      subst this
      rcases q.2 with rfl | rfl <;> cases hL
    · unfold M_a at hM
      simp only [Bool.or_eq_false_iff, Bool.and_eq_false_iff, beq_eq_false_iff_ne, decide_eq_false_iff_not, ne_eq] at hM
      rw [f3 a m z (fun q => by have := q.2; omega), f2 a m z (fun q => by have := q.2; omega)]
    · rw [f3 a 33 0 (fun q => absurd q.2 (by decide)), f2 a 33 0 (fun q => absurd q.2 (by decide))]
  -- the text is laid down
  have R4 : RR A a V3 Wc := by
    obtain ⟨-, -, ⟨-, K2, K3⟩, -⟩ := id R3
    have kz : ∀ z, z < 79 → Wc a 2 z = Wb a 2 z := fun z z1 => cz z (by omega) (by omega) (by omega)
    refine RR_st R3 cf_r (wf_b f4 rfl) (fun z hz => kz z (by omega)) (seR_c K2 rfl (fun z _ _ => ⟨rfl, rfl, rfl⟩) (fun z hz => by rw [Int.zero_add]; exact kz z (by omega))) ?_
    obtain ⟨q1, q2, q3, q4, q5⟩ := K3
    refine ⟨by rw [Int.zero_add, kz 71 (by decide)]; rw [Int.zero_add] at q1; exact q1, q2, by rw [Int.zero_add, kz 72 (by decide)]; rw [Int.zero_add] at q3; exact q3, q4, fun t ht => ?_⟩
    have q2 : 0 ≤ V3 (A 1) 5 0 ∧ V3 (A 1) 5 0 ≤ 6 := q2
    have ht' : (t : Int) < V3 (A 1) 5 0 := ht
    refine txR_k (q5 t ht) (fun z _ => rfl) (fun z _ _ => rfl) rfl rfl ?_ (fun i i0 i1 => ⟨?_, ?_⟩)
    · exact cz _ (by omega) (by omega) (by omega)
    · exact cz _ (by omega) (by omega) (by omega)
    · exact cz _ (by omega) (by omega) (by omega)
  -- the words
  have fV : ∀ b m z, ¬ (b = A 12 ∧ m ≤ 3) → dv_u (dv_u V3 (A 12) 1 1 0) (A 12) 1 2 (-1) b m z = V3 b m z := fun b m z q => by
    by_cases e : b = A 12
    · have hm : m ≠ 1 := fun w => q ⟨e, by omega⟩
      rw [u_j hm, u_j hm]
    · rw [u_b e, u_b e]
  have gW : ∀ b m z, ¬ (b = a ∧ ((22 ≤ m ∧ m ≤ 28) ∨ (48 ≤ m ∧ m ≤ 53))) → dv_u (dv_u (dv_u Wc a 27 0 0) a 28 0 (-1)) a 48 0 2400 b m z = Wc b m z := fun b m z q => by
    by_cases e : b = a
    · have h1 : m ≠ 27 := fun w => q ⟨e, by omega⟩
      have h2 : m ≠ 28 := fun w => q ⟨e, by omega⟩
      have h3 : m ≠ 48 := fun w => q ⟨e, by omega⟩
      rw [u_j h3, u_j h2, u_j h1]
    · rw [u_b e, u_b e, u_b e]
  have R5 := RR_oc R4 fV gW
  have O5 := OF_o (a := a) hA fV gW
  have d2 : ∀ z, dv_u (dv_u (dv_u Wc a 27 0 0) a 28 0 (-1)) a 48 0 2400 a 2 z = Wc a 2 z := fun z => gW a 2 z (fun q => absurd q.2 (by decide))
  have x5 : ∀ m z, dv_u (dv_u V3 (A 12) 1 1 0) (A 12) 1 2 (-1) (A 11) m z = V (A 11) m z := fun m z => by
    rw [fV _ m z (fun q => inj_n hA (by decide) (by decide) (by decide) q.1)]
    exact n0 11 (by decide) (by decide) (by decide) m z
  have ot5 : ot (fun i => if 2400 + i < 2400 + W a 18 0 then dv_u (dv_u (dv_u Wc a 27 0 0) a 28 0 (-1)) a 48 0 2400 a 2 (80 + (2400 + i)) else 0) (fun i => dv_u (dv_u (dv_u Wc a 27 0 0) a 28 0 (-1)) a 48 0 2400 a 2 (2880 + (2400 + i))) a 2400 (2400 + W a 18 0) (dv_u (dv_u (dv_u Wc a 27 0 0) a 28 0 (-1)) a 48 0 2400) := ⟨fun _ _ => rfl, fun _ _ => rfl⟩
  have hT5 : tx_ok 1 (fun i => if 2400 + i < 2400 + W a 18 0 then dv_u (dv_u (dv_u Wc a 27 0 0) a 28 0 (-1)) a 48 0 2400 a 2 (80 + (2400 + i)) else 0) (fun i => dv_u (dv_u (dv_u Wc a 27 0 0) a 28 0 (-1)) a 48 0 2400 a 2 (2880 + (2400 + i))) (V (A 11) 0) (V (A 11) 1) (V (A 11) 2 0) (W a 18 0) (V (A 11) 3 0) := by
    refine cg_tx ⟨fun z z0 z1 => ?_, fun z z0 z1 => ?_⟩ hT
    · dsimp only
      by_cases q : z < W a 18 0
      · rw [if_pos (by omega), d2]
        have := (ctx z z0 (by rw [b18]; exact q)).1
        rw [f3 a 15 z (fun q => absurd q.2 (by decide)), f2 a 15 z (fun q => absurd q.2 (by decide))] at this
        rw [← this]
        congr 1; omega
      · rw [if_neg (by omega), show z = W a 18 0 by omega, hE]
    · dsimp only
      rw [d2]
      have := (ctx z z0 (by rw [b18]; exact z1)).2
      rw [f3 a 16 z (fun q => absurd q.2 (by decide)), f2 a 16 z (fun q => absurd q.2 (by decide))] at this
      rw [← this]
      congr 1; omega
  obtain ⟨hn, pos, p0, pn, pc⟩ := tx_pos hT5
  have D5 : wd A a (dv_u (dv_u V3 (A 12) 1 1 0) (A 12) 1 2 (-1)) (dv_u (dv_u (dv_u Wc a 27 0 0) a 28 0 (-1)) a 48 0 2400) 0 := by
    refine ⟨?_, ?_, ?_, ?_⟩
    · rw [u_i (by decide), u_e, u_j (by decide), u_j (by decide), u_e]
    · rw [u_e, u_j (by decide), u_e]
    · rw [u_j (by decide), u_j (by decide), u_e]; decide
    · rw [u_j (by decide), u_e]; decide
  have M5 : mv a W (dv_u (dv_u (dv_u Wc a 27 0 0) a 28 0 (-1)) a 48 0 2400) := by
    refine ⟨fun i i0 i1 => ?_, fun z z0 z1 => ?_, fun z hz => ?_⟩
    · rw [gW a 5 _ (fun q => absurd q.2 (by decide)), f4 a 5 _ (fun q => absurd q.2 (by decide)), f3 a 5 _ (fun q => absurd q.2 (by decide))]
      exact c2 i i0 i1
    · rw [gW a 32 _ (fun q => absurd q.2 (by decide)), f4 a 32 _ (fun q => absurd q.2 (by decide)), c3 z z0 z1]
      exact f2 a 31 z (fun q => absurd q.2 (by decide))
    · rw [d2, cz z (by omega) (by omega) (by omega), b2]
  obtain ⟨V', W', u, z1, z2, z3⟩ := ord_loop (zz1 := Wb a 33 0) (n := V (A 11) 3 0) (B := 2400) (N := W a 18 0) (pos := pos) R (by rw [f3 a 33 0 (fun q => absurd q.2 (by decide)), f2 a 33 0 (fun q => absurd q.2 (by decide))]) hn.2 (by decide) pn h18.1 (V (A 11) 3 0).toNat 0 0 _ _ (by omega) R5 D5 (by decide) (by omega) (sv_c hA s1 O5) M5 (x5 3 0) (fun c hc => by
    rw [show dv_u (dv_u V3 (A 12) 1 1 0) (A 12) 1 2 (-1) (A 11) 0 = V (A 11) 0 from funext (x5 0), show dv_u (dv_u V3 (A 12) 1 1 0) (A 12) 1 2 (-1) (A 11) 1 = V (A 11) 1 from funext (x5 1), x5]
    exact pc c hc) ot5 (by rw [u_e, p0]; rfl)
  refine ⟨V', W', u, V3, e1, ?_, z1, ⟨Wa, e2, ?_⟩, z3⟩
  · rw [n0 0 (by decide) (by decide) (by decide)]
    exact R.2.1.1.2.2.2.2.2.2.2.2.1
  · rw [e3]
    exact m_27e e4 (by rw [c79]; exact z2)
theorem L_orders (h : RR A a V W) : ∃ V' W' u, f_X11_orders V (A 0) = (V', u) ∧ f_X12_orders W a = (W', u) ∧ RR A a V' W' := by
  have hA := h.1
  have R0 := RR_ta (y := -1) h
  obtain ⟨V0, hV0⟩ : ∃ V0, V0 = dv_u V (A 0) 17 0 (-1) := ⟨_, rfl⟩
  obtain ⟨W0, hW0⟩ : ∃ W0, W0 = dv_u W a 47 0 (-1) := ⟨_, rfl⟩
  rw [← hV0, ← hW0] at R0
  obtain ⟨-, -, -, g5, -⟩ := RR_G R0
  obtain ⟨-, ⟨⟨-, -, -, -, -, -, g6, g7, -⟩, -⟩, -, -, ⟨t1, t2, t3⟩, -, -, -, -, r1, r2, r3⟩ := id R0
  have n11 : A 11 ≠ A 10 := inj_n hA (by decide) (by decide) (by decide)
  obtain ⟨V1, y, W1, y', e1, e2, f1, f2, f3, f4, f5, f6⟩ := rd_whole (V := V0) (W := W0) (r := A 10) (x := A 11) (tp := A 9) (o := 1) (a := a) n11 (inj_n hA (by decide) (by decide) (by decide)) (inj_n hA (by decide) (by decide) (by decide)) (Or.inr rfl) t1 t2 t3 r2 r1
  have R := RR_read (J := 11) R0 (Or.inl rfl) f1 f2 f3 f4 f5
  have p0 : ∀ m z, V1 (A 0) m z = V0 (A 0) m z := fun m z => f1 _ m z (fun q => inj_n hA (by decide) (by decide) (by decide) q.1) (fun q => inj_n hA (by decide) (by decide) (by decide) q.1)
  have c5 : dv_u V1 (A 0) 15 0 y (A 0) 5 0 = A 9 := by rw [u_j (by decide), p0, g5]
  have c15 : dv_u (dv_u V1 (A 0) 15 0 y) (A 9) 1 0 0 (A 0) 15 0 = y := by rw [u_b (inj_n hA (by decide) (by decide) (by decide)), u_e]
  have cx : ∀ m z, dv_u (dv_u V1 (A 0) 15 0 y) (A 9) 1 0 0 (A 11) m z = V1 (A 11) m z := fun m z => by rw [u_b (inj_n hA (by decide) (by decide) (by decide)), u_b (inj_n hA (by decide) (by decide) (by decide))]
  obtain ⟨q0, q1, q10, -⟩ := RR_G R
  by_cases ey : y = -1
  case neg =>
    rcases f6 with ⟨q, -⟩ | ⟨-, ey'⟩
    · exact absurd q ey
    obtain ⟨V2, W2, r1, r2, r3⟩ := RR_bad (k := -6) R (Or.inr (Or.inr (Or.inr (Or.inr ⟨rfl, rfl, rfl⟩))))
    refine ⟨V2, W2, -6, ?_, ?_, r3⟩
    · unfold f_X11_orders
      rw [bq, ← hV0, bq, g6, bq, g5, bq, g7, dv_bn2 e1, bq, bq, c5, bq, bq, c15, if_neg ey, dv_bn2 r1]
    · unfold f_X12_orders
      rw [bq, ← hW0, dv_bn2 e2, if_neg (fun q => q ey'), dv_bn2 r2]
  case pos =>
    have f7 := f6.resolve_right (fun q => q.1 ey)
    obtain ⟨-, ey', hs0, hN, hE, hT⟩ := f7
    obtain ⟨V', W', u, V3, z1, z2, z3, ⟨Wa, z4, z5⟩, z6⟩ := ord_begin R hN hE (by
      rw [show dv_u (dv_u V1 (A 0) 15 0 y) (A 9) 1 0 0 (A 11) 0 = V1 (A 11) 0 from funext (cx 0), show dv_u (dv_u V1 (A 0) 15 0 y) (A 9) 1 0 0 (A 11) 1 = V1 (A 11) 1 from funext (cx 1), cx, cx]
      exact hT)
    refine ⟨V', W', u, ?_, ?_, z6⟩
    · have c8 : dv_u V3 (A 12) 1 1 0 (A 0) 8 0 = A 12 := by rw [u_b (inj_n hA (by decide) (by decide) (by decide)), z2]
      unfold f_X11_orders
      rw [bq, ← hV0, bq, g6, bq, g5, bq, g7, dv_bn2 e1, bq, bq, c5, bq, bq, c15, if_pos ey, bq, q10, bq, q0, bq, q1, dv_bn2 z1, bq, z2, bq, bq, c8, bq]
      exact z3
    · unfold f_X12_orders
      rw [bq, ← hW0, dv_bn2 e2, if_pos (by rw [ey']; decide), dv_bn2 z4]
      exact z5
end QTK
end
section
section QTL
variable {V V' V0 V1 V2 U U1 W W' W0 W1 W2 : dV} {a z t k s p x y u o r q n c : Int} {A : Nat → Int}
theorem dv_rem_ok {a b : Int} (a0 : 0 ≤ a) (a1 : a ≤ 2147483647) (b0 : 1 ≤ b) (b1 : b ≤ 2147483647) : dv_rem a b = a % b := by
  have h1 := Int.mul_ediv_add_emod a b
  have h2 := Int.emod_nonneg a (show b ≠ 0 by omega)
  have h3 := Int.emod_lt_of_pos a (show 0 < b by omega)
  have h4 : 0 ≤ a / b := Int.ediv_nonneg a0 (by omega)
  have h5 : a / b ≤ a := Int.ediv_le_self b a0
  rw [Int.mul_comm] at h1
  unfold dv_rem
  rw [Int32.toInt_sub, Int32.toInt_mul, Int32.toInt_div, dv_ofInt (by omega) (by omega), dv_ofInt (by omega) (by omega), Int.tdiv_eq_ediv_of_nonneg a0, dv_bm (n := a / b) (by omega) (by omega), dv_bm (n := a / b * b) (by omega) (by omega), dv_bm (by omega) (by omega)]
  omega
theorem dv_lrem2 {a b : Int} (a0 : 0 ≤ a) (a1 : a ≤ 2147483647) (b0 : 1 ≤ b) (b1 : b ≤ 2147483647) : dv_lrem a b = a % b := by
  have h1 := Int.mul_ediv_add_emod a b
  have h2 := Int.emod_nonneg a (show b ≠ 0 by omega)
  have h3 := Int.emod_lt_of_pos a (show 0 < b by omega)
  have h4 : 0 ≤ a / b := Int.ediv_nonneg a0 (by omega)
  have h5 : a / b ≤ a := Int.ediv_le_self b a0
  rw [Int.mul_comm] at h1
  unfold dv_lrem
  rw [Int64.toInt_sub, Int64.toInt_mul, Int64.toInt_div, dv_lof (by omega) (by omega), dv_lof (by omega) (by omega), Int.tdiv_eq_ediv_of_nonneg a0, dv_bm6 (n := a / b) (by omega) (by omega), dv_bm6 (n := a / b * b) (by omega) (by omega), dv_bm6 (by omega) (by omega)]
  omega
/-- the next draw -/
def nx (p : Int) : Int := (1103 * p + 12345) % 1000003
theorem nx_b : 0 ≤ nx p ∧ nx p ≤ 1000002 := by unfold nx; omega
theorem c_next (h : 0 ≤ p ∧ p ≤ 1000002) : f_X11_nextDraw V p = (nx p, ()) := by
  unfold f_X11_nextDraw nx
  rw [bq, bq, bq, dv_mul_ok (by omega) (by omega) (by omega) (by omega) (by omega) (by omega), dv_add_ok (by omega) (by omega) (by omega) (by omega) (by omega) (by omega), dv_rem_ok (by omega) (by omega) (by omega) (by omega), Int.mul_comm]
theorem m_draws (hp : W a 56 0 = p) (h : 0 ≤ p ∧ p ≤ 1000002) : f_X12_draws W a n = (dv_u W a 56 0 (nx p), nx p % n) := by
  have b := nx_b (p := p)
  have e : dv_l2i (dv_lrem (dv_ladd (dv_lmul 1103 (W a 56 0)) 12345) 1000003) = nx p := by
    rw [hp, dv_lmul_ok (by omega) (by omega), dv_ladd_ok (by unfold lb; omega) (by unfold lb; omega), dv_lrem2 (by omega) (by omega) (by omega) (by omega)]
    exact dv_l2i_ok (by have := nx_b (p := p); unfold nx at this; omega) (by have := nx_b (p := p); unfold nx at this; omega)
  unfold f_X12_draws
  rw [bq, bq, bq, bq, bq, bq, e, bq, bq, u_e, bq]
theorem rem_b (n1 : 1 ≤ n) : 0 ≤ p % n ∧ p % n < n := ⟨Int.emod_nonneg p (by omega), Int.emod_lt_of_pos p (by omega)⟩
/-- what a drawn year changes -/
def YF (A : Nat → Int) (a : Int) (V W V' W' : dV) : Prop := (∀ b m z, ¬ (b = A 7 ∧ (m = 2 ∨ m = 3 ∨ m = 4 ∨ m = 5)) → ¬ (b = A 14 ∧ m ≤ 3) → V' b m z = V b m z) ∧ (∀ z, z ≠ 0 → V' (A 7) 5 z = V (A 7) 5 z) ∧ (∀ z, 8 ≤ z → V' (A 14) 1 z = V (A 14) 1 z) ∧ (∀ b m z, ¬ (b = a ∧ (m = 2 ∨ (22 ≤ m ∧ m ≤ 26) ∨ (29 ≤ m ∧ m ≤ 30) ∨ m = 56)) → W' b m z = W b m z) ∧ ∀ z, 29 ≤ z → W' a 2 z = W a 2 z
theorem YF_r : YF A a V W V W := ⟨fun _ _ _ _ _ => rfl, fun _ _ => rfl, fun _ _ => rfl, fun _ _ _ _ => rfl, fun _ _ => rfl⟩
theorem YF_t (h : YF A a V W V' W') (k : YF A a V' W' V1 W1) : YF A a V W V1 W1 := ⟨fun b m z p q => (k.1 b m z p q).trans (h.1 b m z p q), fun z hz => (k.2.1 z hz).trans (h.2.1 z hz), fun z hz => (k.2.2.1 z hz).trans (h.2.2.1 z hz), fun b m z p => (k.2.2.2.1 b m z p).trans (h.2.2.2.1 b m z p), fun z hz => (k.2.2.2.2 z hz).trans (h.2.2.2.2 z hz)⟩
theorem YF_j (hA : inj A) (f : kj_fr (A 14) V V') (g : jm_fr a W W') : YF A a V W V' W' := ⟨fun b m z _ p => f.1 b m z p, fun z _ => f.1 _ _ _ (fun q => inj_n hA (by decide) (by decide) (by decide) q.1), f.2, fun b m z p => g b m z (fun q => p ⟨q.1, by omega⟩), fun z _ => g _ _ _ (fun q => absurd q.2 (by omega))⟩
theorem YF_w (hz : z < 29) : YF A a V W V (dv_u W a 2 z y) := ⟨fun _ _ _ _ _ => rfl, fun _ _ => rfl, fun _ _ => rfl, fun b m' z' p => by
  by_cases q : b = a
  · exact u_j (fun w => p ⟨q, Or.inl w⟩)
  · exact u_b q, fun z' h => u_i (by omega)⟩
theorem YF_56 : YF A a V W V (dv_u W a 56 0 y) := ⟨fun _ _ _ _ _ => rfl, fun _ _ => rfl, fun _ _ => rfl, fun b m' z' p => by
  by_cases q : b = a
  · exact u_j (fun w => p ⟨q, by omega⟩)
  · exact u_b q, fun z' _ => u_j (by decide)⟩
theorem YF_u {m : Nat} (hA : inj A) (hm : m = 2 ∨ m = 3 ∨ m = 4) : YF A a V W (dv_u V (A 7) m z y) W := ⟨fun b m' z' p _ => by
  by_cases q : b = A 7
  · exact u_j (fun w => p ⟨q, by omega⟩)
  · exact u_b q, fun z' _ => u_j (by omega), fun z' _ => u_b (inj_n hA (by decide) (by decide) (by decide)), fun _ _ _ _ => rfl, fun _ _ => rfl⟩
/-- the paper's relation, behind a change of the paper -/
theorem JX_y (h : JX A a 7 V W) (f : YF A a V W V' W') (e : ef9 (V' (A 7)) (kf (W' a 2) 0)) (g : kgf (V' (A 7))) (b27 : 0 ≤ W' a 2 27 ∧ W' a 2 27 ≤ 9999) : JX A a 7 V' W' := by
  obtain ⟨hA, hG, hl, hr, -, -⟩ := h
  have F : cf A (fun i m => (i == 7 && (2 ≤ m && m ≤ 5)) || (i == 14 && m ≤ 3)) V V' := fun i m z hi hm hL => f.1 _ m z (fun q => by
    have := hA.1 i 7 hi (by decide) q.1
    subst this
    simp at hL; omega) (fun q => by
    have := hA.1 i 14 hi (by decide) q.1
    subst this
    simp at hL; omega)
  exact ⟨hA, G_c hG (cf_ag F rfl), laR_c (by decide) hl (cf_ag F rfl) (fun z hz => by rw [Int.zero_add]; exact f.2.2.2.2 z (by omega)), rdR_c hr (fun z => F 10 1 z (by decide) (by decide) rfl) f.2.2.1 (fun z => f.2.2.2.1 a 7 z (fun q => absurd q.2 (by omega))) (fun z => f.2.2.2.1 a 17 z (fun q => absurd q.2 (by omega))), ⟨e, g⟩, Or.inr rfl, b27⟩
theorem y_roll (h : JX A a 7 V W) (hc : 0 ≤ c ∧ c < V (A 7) 7 0) : JX A a 7 (dv_u (dv_u V (A 7) 3 c (-1)) (A 7) 4 c (-1)) (dv_u (dv_u W a 2 (9 + c) (-1)) a 2 (18 + c) (-1)) ∧ YF A a V W (dv_u (dv_u V (A 7) 3 c (-1)) (A 7) 4 c (-1)) (dv_u (dv_u W a 2 (9 + c) (-1)) a 2 (18 + c) (-1)) := by
  obtain ⟨hA, -, -, -, ⟨hf, kk⟩, -, h27⟩ := id h
  obtain ⟨e7, e8, e9, e50, e51, e52, ec⟩ := ef9_n hf
  have n9 := kk.1.1
  have fj : ∀ (j : Nat) (z : Int), j ≠ 3 → j ≠ 4 → dv_u (dv_u V (A 7) 3 c (-1)) (A 7) 4 c (-1) (A 7) j z = V (A 7) j z := fun j z n3 n4 => by rw [u_j n4, u_j n3]
  have f3 : ∀ z, dv_u (dv_u V (A 7) 3 c (-1)) (A 7) 4 c (-1) (A 7) 3 z = if z = c then -1 else V (A 7) 3 z := fun z => by rw [u_j (by decide), u_if]
  have f4 : ∀ z, dv_u (dv_u V (A 7) 3 c (-1)) (A 7) 4 c (-1) (A 7) 4 z = if z = c then -1 else V (A 7) 4 z := fun z => by rw [u_if, u_j (by decide)]
  have w2 : ∀ z, dv_u (dv_u W a 2 (9 + c) (-1)) a 2 (18 + c) (-1) a 2 z = if z = 18 + c then -1 else if z = 9 + c then -1 else W a 2 z := fun z => by rw [u_if, u_if]
  have wn : ∀ z, z ≠ 9 + c → z ≠ 18 + c → dv_u (dv_u W a 2 (9 + c) (-1)) a 2 (18 + c) (-1) a 2 z = W a 2 z := fun z n1 n2 => by rw [w2, if_neg n2, if_neg n1]
  have Y : YF A a V W (dv_u (dv_u V (A 7) 3 c (-1)) (A 7) 4 c (-1)) (dv_u (dv_u W a 2 (9 + c) (-1)) a 2 (18 + c) (-1)) := YF_t (YF_t (YF_t (YF_u hA (by decide)) (YF_u hA (by decide))) (YF_w (by omega))) (YF_w (by omega))
  refine ⟨JX_y h Y (ef9_of ⟨?_, ?_, ?_, ?_, ?_, ?_, fun d d0 d9 => ?_⟩) (kg_sub kk (fun d d0 d1 => ⟨fj 0 d (by decide) (by decide), fj 1 d (by decide) (by decide), ?_, ?_⟩) (fj 7 0 (by decide) (by decide)) (fj 8 0 (by decide) (by decide)) (fj 9 0 (by decide) (by decide)) ?_ ?_ (fj 5 1 (by decide) (by decide)) (fj 5 2 (by decide) (by decide))) (by rw [wn 27 (by omega) (by omega)]; exact h27), Y⟩
  · rw [fj 7 0 (by decide) (by decide), wn 69 (by omega) (by omega), e7]
  · rw [fj 8 0 (by decide) (by decide), wn 67 (by omega) (by omega), e8]
  · rw [fj 9 0 (by decide) (by decide), wn 68 (by omega) (by omega), e9]
  · rw [fj 5 0 (by decide) (by decide), wn 28 (by omega) (by omega), e50]
  · rw [fj 5 1 (by decide) (by decide), wn 65 (by omega) (by omega), e51]
  · rw [fj 5 2 (by decide) (by decide), wn 66 (by omega) (by omega), e52]
  · obtain ⟨r0, r1, r2, r3, r4⟩ := ec d d0 d9
    refine ⟨by rw [fj 0 d (by decide) (by decide), wn _ (by omega) (by omega), r0], by rw [fj 1 d (by decide) (by decide), wn _ (by omega) (by omega), r1], by rw [fj 2 d (by decide) (by decide), wn _ (by omega) (by omega), r2], ?_, ?_⟩
    · rw [f3, w2, if_neg (show ¬ 9 + d = 18 + c by omega)]
      by_cases q : d = c
      · rw [if_pos q, if_pos (by omega)]
      · rw [if_neg q, if_neg (by omega)]; exact r3
    · rw [f4, w2]
      by_cases q : d = c
      · rw [if_pos q, if_pos (by omega)]
      · rw [if_neg q, if_neg (by omega), if_neg (by omega)]; exact r4
  · rw [fj 2 d (by decide) (by decide)]; exact (kk.2.2.1 d d0 d1).2.2.2
  · rw [f3, f4]
    by_cases q : d = c
    · exact Or.inr (by rw [if_pos q])
    · rw [if_neg q, if_neg q]; exact Or.inl ⟨rfl, rfl⟩
  · rw [fj 10 0 (by decide) (by decide)]; exact kk.2.2.2.2.2.1
  · rw [fj 5 0 (by decide) (by decide)]; exact kk.2.2.2.2.2.2.1
end QTL
section QTM
variable {V V' V0 V1 V2 U U1 W W' W0 W1 W2 : dV} {a z t k s p x y u o r q n c : Int} {A : Nat → Int}
theorem y_put (h : JX A a 7 V W) (hp : plc (V (A 7)) c x y) (hx : x ≤ 11) (hy : y ≤ 11) (ht : 0 ≤ t ∧ t ≤ 99) : JX A a 7 (dv_u (dv_u V (A 7) 3 c x) (A 7) 4 c y) (dv_u (dv_u (dv_u W a 2 (9 + c) x) a 2 (18 + c) y) a 2 27 (min 9999 (dv_add (W a 2 27) t))) ∧ YF A a V W (dv_u (dv_u V (A 7) 3 c x) (A 7) 4 c y) (dv_u (dv_u (dv_u W a 2 (9 + c) x) a 2 (18 + c) y) a 2 27 (min 9999 (dv_add (W a 2 27) t))) := by
  obtain ⟨hA, -, -, -, ⟨hf, kk⟩, -, h27⟩ := id h
  obtain ⟨e7, e8, e9, e50, e51, e52, ec⟩ := ef9_n hf
  have n9 := kk.1.1
  have hc := hp.1
  have ha : dv_add (W a 2 27) t = W a 2 27 + t := dv_add_ok (by omega) (by omega) (by omega) (by omega) (by omega) (by omega)
  have fj : ∀ (j : Nat) (z : Int), j ≠ 3 → j ≠ 4 → dv_u (dv_u V (A 7) 3 c x) (A 7) 4 c y (A 7) j z = V (A 7) j z := fun j z n3 n4 => by rw [u_j n4, u_j n3]
  have f3 : ∀ z, dv_u (dv_u V (A 7) 3 c x) (A 7) 4 c y (A 7) 3 z = if z = c then x else V (A 7) 3 z := fun z => by rw [u_j (by decide), u_if]
  have f4 : ∀ z, dv_u (dv_u V (A 7) 3 c x) (A 7) 4 c y (A 7) 4 z = if z = c then y else V (A 7) 4 z := fun z => by rw [u_if, u_j (by decide)]
  have w2 : ∀ z, dv_u (dv_u (dv_u W a 2 (9 + c) x) a 2 (18 + c) y) a 2 27 (min 9999 (dv_add (W a 2 27) t)) a 2 z = if z = 27 then min 9999 (dv_add (W a 2 27) t) else if z = 18 + c then y else if z = 9 + c then x else W a 2 z := fun z => by rw [u_if, u_if, u_if]
  have wn : ∀ z, z ≠ 27 → z ≠ 9 + c → z ≠ 18 + c → dv_u (dv_u (dv_u W a 2 (9 + c) x) a 2 (18 + c) y) a 2 27 (min 9999 (dv_add (W a 2 27) t)) a 2 z = W a 2 z := fun z n0 n1 n2 => by rw [w2, if_neg n0, if_neg n2, if_neg n1]
  have Y : YF A a V W (dv_u (dv_u V (A 7) 3 c x) (A 7) 4 c y) (dv_u (dv_u (dv_u W a 2 (9 + c) x) a 2 (18 + c) y) a 2 27 (min 9999 (dv_add (W a 2 27) t))) := YF_t (YF_t (YF_t (YF_t (YF_u hA (by decide)) (YF_u hA (by decide))) (YF_w (by omega))) (YF_w (by omega))) (YF_w (by decide))
  refine ⟨JX_y h Y (ef9_of ⟨?_, ?_, ?_, ?_, ?_, ?_, fun d d0 d9 => ?_⟩) (kg_lay kk hp (fun j z n3 n4 _ => fj j z n3 n4) f3 f4 (by rw [fj 10 0 (by decide) (by decide)]; exact kk.2.2.2.2.2.1)) (by rw [w2, if_pos rfl, ha]; omega), Y⟩
  · rw [fj 7 0 (by decide) (by decide), wn 69 (by omega) (by omega) (by omega), e7]
  · rw [fj 8 0 (by decide) (by decide), wn 67 (by omega) (by omega) (by omega), e8]
  · rw [fj 9 0 (by decide) (by decide), wn 68 (by omega) (by omega) (by omega), e9]
  · rw [fj 5 0 (by decide) (by decide), wn 28 (by omega) (by omega) (by omega), e50]
  · rw [fj 5 1 (by decide) (by decide), wn 65 (by omega) (by omega) (by omega), e51]
  · rw [fj 5 2 (by decide) (by decide), wn 66 (by omega) (by omega) (by omega), e52]
  · obtain ⟨r0, r1, r2, r3, r4⟩ := ec d d0 d9
    refine ⟨by rw [fj 0 d (by decide) (by decide), wn _ (by omega) (by omega) (by omega), r0], by rw [fj 1 d (by decide) (by decide), wn _ (by omega) (by omega) (by omega), r1], by rw [fj 2 d (by decide) (by decide), wn _ (by omega) (by omega) (by omega), r2], ?_, ?_⟩
    · rw [f3, w2, if_neg (show ¬ 9 + d = 27 by omega), if_neg (show ¬ 9 + d = 18 + c by omega)]
      by_cases q : d = c
      · rw [if_pos q, if_pos (by omega)]
      · rw [if_neg q, if_neg (by omega)]; exact r3
    · rw [f4, w2, if_neg (show ¬ 18 + d = 27 by omega)]
      by_cases q : d = c
      · rw [if_pos q, if_pos (by omega)]
      · rw [if_neg q, if_neg (by omega), if_neg (by omega)]; exact r4
/-- the year passes on the paper -/
theorem y_end (h : JX A a 7 V W) (hy : V (A 7) 5 0 ≤ 998) : ∃ V' W', f_X11_drawYear_160 V p (A 0) = (V', p) ∧ f_X12_years_163 W a t q = Sum.inl (W', a, t, q + 1) ∧ JX A a 7 V' W' ∧ YF A a V W V' W' := by
  obtain ⟨lx, hlx, -⟩ := JX_jd h
  obtain ⟨V', W', u, y1, y2, y3, y4, y5, y6, y7, y8, y9, y10, y11⟩ := W_year h hlx hy
  have hA := h.1
  obtain ⟨⟨g0, -, -, g3, -, -, -, -, -, g9, -⟩, -⟩ := h.2.1
  have h27 := h.2.2.2.2.2.2
  have Y : YF A a V W V' W' := ⟨fun b m z n1 n2 => y4 b m z n1 n2, y6, y5, fun b m z n1 => y7 b m z (fun w => n1 ⟨w.1, by omega⟩), y8⟩
  refine ⟨V', W', ?_, ?_, JX_y h Y y10.1 y10.2 (by rw [y9]; exact h27), Y⟩
  · unfold f_X11_drawYear_160
    rw [bq, g3, bq, g9, bq, g0, dv_bn2 hlx, dv_bn2 y1]
  · unfold f_X12_years_163
    rw [dv_bn2 y2, bq]
/-- a drawn year, in both -/
theorem one_year (h : JX A a 7 V W) (hp : W a 56 0 = p) (pb : 0 ≤ p ∧ p ≤ 1000002) (hn : 1 ≤ V (A 7) 7 0) (hy : V (A 7) 5 0 ≤ 998) (hq : q < t) : ∃ V' W', f_X11_drawYear V (A 0) p = (V', nx (nx (nx (nx p)))) ∧ f_X12_years_60b (W, a, t, q) = Sum.inl (W', a, t, q + 1) ∧ W' a 56 0 = nx (nx (nx (nx p))) ∧ JX A a 7 V' W' ∧ YF A a V W V' W' := by
  obtain ⟨hA, hG, -, -, ⟨hf, kk⟩, -, h27⟩ := id h
  obtain ⟨⟨g0, -, -, g3, -, -, -, -, -, g9, -⟩, -⟩ := hG
  obtain ⟨e7, e8, e9, e50, e51, e52, ec⟩ := ef9_n hf
  have n9 := kk.1.1
  have w12 := kk.1.2.1
  have h12 := kk.1.2.2.1
  have wp := kk.2.2.2.2.1
  obtain ⟨p1, hp1⟩ : ∃ p1, p1 = nx p := ⟨_, rfl⟩
  obtain ⟨p2, hp2⟩ : ∃ p2, p2 = nx p1 := ⟨_, rfl⟩
  obtain ⟨p3, hp3⟩ : ∃ p3, p3 = nx p2 := ⟨_, rfl⟩
  obtain ⟨p4, hp4⟩ : ∃ p4, p4 = nx p3 := ⟨_, rfl⟩
  have b1 : 0 ≤ p1 ∧ p1 ≤ 1000002 := by rw [hp1]; exact nx_b
  have b2 : 0 ≤ p2 ∧ p2 ≤ 1000002 := by rw [hp2]; exact nx_b
  have b3 : 0 ≤ p3 ∧ p3 ≤ 1000002 := by rw [hp3]; exact nx_b
  have b4 : 0 ≤ p4 ∧ p4 ≤ 1000002 := by rw [hp4]; exact nx_b
  rw [← hp1, ← hp2, ← hp3, ← hp4]
  obtain ⟨c, hc⟩ : ∃ c, c = p1 % V (A 7) 7 0 := ⟨_, rfl⟩
  obtain ⟨x, hx⟩ : ∃ x, x = p2 % V (A 7) 8 0 := ⟨_, rfl⟩
  obtain ⟨y, hyy⟩ : ∃ y, y = p3 % V (A 7) 9 0 := ⟨_, rfl⟩
  obtain ⟨d, hd⟩ : ∃ d, d = p4 % 3 := ⟨_, rfl⟩
  have cb : 0 ≤ c ∧ c < V (A 7) 7 0 := by rw [hc]; exact rem_b hn
  have xb : 0 ≤ x ∧ x < V (A 7) 8 0 := by rw [hx]; exact rem_b wp.1
  have yb : 0 ≤ y ∧ y < V (A 7) 9 0 := by rw [hyy]; exact rem_b wp.2
  have db : 0 ≤ d ∧ d < 3 := by rw [hd]; exact rem_b (by decide)
  -- the class's draws
  have CV : ∀ Z, f_X11_drawYear_97 V x c p4 (A 0) y = Z → f_X11_drawYear V (A 0) p = Z := by
    intro Z hZ
    have d1 : f_X11_nextDraw V p = (p1, ()) := by rw [hp1]; exact c_next pb
    have d2 : f_X11_nextDraw V p1 = (p2, ()) := by rw [hp2]; exact c_next b1
    have d3 : f_X11_nextDraw V p2 = (p3, ()) := by rw [hp3]; exact c_next b2
    have d4 : f_X11_nextDraw V p3 = (p4, ()) := by rw [hp4]; exact c_next b3
    unfold f_X11_drawYear f_X11_drawYear_46 f_X11_drawYear_71
    rw [dv_bn2 d1, dv_bn2 d2, dv_bn2 d3, dv_bn2 d4, bq, g3, bq, if_neg (show ¬ V (A 7) 7 0 ≤ 0 by omega), bq, bq, bq, dv_rem_ok b1.1 (by omega) hn (by omega), ← hc, bq, bq, if_neg (show ¬ V (A 7) 8 0 ≤ 0 by omega), bq, bq, bq, dv_rem_ok b2.1 (by omega) wp.1 (by omega), ← hx, bq, bq, if_neg (show ¬ V (A 7) 9 0 ≤ 0 by omega), bq, bq, bq, dv_rem_ok b3.1 (by omega) wp.2 (by omega), ← hyy]
    exact hZ
  -- the reference's draws
  have k2 : ∀ v z, dv_u W a 56 0 v a 2 z = W a 2 z := fun v z => u_j (by decide)
  have CW : ∀ Z, (if 2 ≤ d then f_X12_years_151 (dv_u W a 56 0 p4) d c a t q else dv_b2 (f_X12_canLay (dv_u W a 56 0 p4) a c x y) fun V134 x37 => if x37 = 0 then f_X12_years_151 V134 d c a t q else dv_b2 (f_X12_laysAt V134 a c x y) fun V147 _ => f_X12_years_151 V147 d c a t q) = Z → f_X12_years_60b (W, a, t, q) = Z := by
    intro Z hZ
    have d1 : f_X12_draws W a (W a 2 69) = (dv_u W a 56 0 p1, c) := by rw [m_draws hp pb, ← hp1, hc, e7]
    have d2 : f_X12_draws (dv_u W a 56 0 p1) a (W a 2 67) = (dv_u W a 56 0 p2, x) := by rw [m_draws (p := p1) u_e b1, dv_uu, ← hp2, hx, e8]
    have d3 : f_X12_draws (dv_u W a 56 0 p2) a (W a 2 68) = (dv_u W a 56 0 p3, y) := by rw [m_draws (p := p2) u_e b2, dv_uu, ← hp3, hyy, e9]
    have d4 : f_X12_draws (dv_u W a 56 0 p3) a 3 = (dv_u W a 56 0 p4, d) := by rw [m_draws (p := p3) u_e b3, dv_uu, ← hp4, hd]
    rw [f_X12_years_60e]
    unfold f_X12_years_60c
    rw [if_neg (by omega), bq, if_neg (by omega), dv_bn2 q_many, dv_bn2 d1, bq, k2, dv_bn2 d2, bq, k2, dv_bn2 d3, dv_bn2 d4]
    exact hZ
  have h4 : JX A a 7 V (dv_u W a 56 0 p4) := JX_y h YF_56 (by rw [show dv_u W a 56 0 p4 a 2 = W a 2 from funext (k2 p4)]; exact hf) kk (by rw [k2]; exact h27)
  have w56 : dv_u W a 56 0 p4 a 56 0 = p4 := u_e
  have Y4 : YF A a V W V (dv_u W a 56 0 p4) := YF_56
  generalize dv_u W a 56 0 p4 = W4 at CW h4 w56 Y4
  -- the end, whatever was done
  have FIN : ∀ (V5 W5 : dV), JX A a 7 V5 W5 → YF A a V W4 V5 W5 → W5 a 56 0 = p4 → V5 (A 7) 5 0 = V (A 7) 5 0 → (∀ Z, f_X11_drawYear_160 V5 p4 (A 0) = Z → f_X11_drawYear V (A 0) p = Z) → (∀ Z, f_X12_years_163 W5 a t q = Z → f_X12_years_60b (W, a, t, q) = Z) → ∃ V' W', f_X11_drawYear V (A 0) p = (V', p4) ∧ f_X12_years_60b (W, a, t, q) = Sum.inl (W', a, t, q + 1) ∧ W' a 56 0 = p4 ∧ JX A a 7 V' W' ∧ YF A a V W V' W' := by
    intro V5 W5 h5 Y5 q56 q5 hV hW
    obtain ⟨V', W', z1, z2, z3, z4⟩ := y_end (p := p4) (t := t) (q := q) h5 (by rw [q5]; exact hy)
    obtain ⟨lx, hlx, -⟩ := JX_jd h5
    obtain ⟨V6, W6, u, y1, y2, -, -, -, -, y7, -⟩ := W_year h5 hlx (by rw [q5]; exact hy)
    have eW : W' = W6 := by
      unfold f_X12_years_163 at z2
      rw [dv_bn2 y2, bq] at z2
      exact (congrArg Prod.fst (Sum.inl.inj z2)).symm
    refine ⟨V', W', hV _ z1, hW _ z2, ?_, z3, YF_t (YF_t Y4 Y5) z4⟩
    rw [eW, y7 a 56 0 (fun w => absurd w.2 (by decide)), q56]
  by_cases ed : d = 2
  · -- rolled
    obtain ⟨R, Y⟩ := y_roll h4 cb
    refine FIN _ _ R Y (by rw [u_j (by decide), u_j (by decide)]; exact w56) (by rw [u_j (by decide), u_j (by decide)]) (fun Z hZ => CV _ ?_) (fun Z hZ => CW _ ?_)
    · unfold f_X11_drawYear_97
      rw [bq, dv_rem_ok b4.1 (by omega) (by decide) (by decide), ← hd, if_neg (fun w => w ed), bq, g3, dv_bn2 (c_rollUp cb)]
      exact hZ
    · unfold f_X12_years_151
      rw [if_pos (by omega), if_neg (fun w => w ed), dv_bn2 m_rolls]
      exact hZ
  · obtain ⟨V5, W5, u, c1, c2, c3, c4, c5⟩ := q_can h4 cb.1 cb.2 (x := x) (y := y) (by omega) (by omega)
    have h5 := JX_c h4 c3 c4
    have Y5 := YF_j hA c3 c4
    have v5 : ∀ m z, V5 (A 7) m z = V (A 7) m z := fun m z => kj_b hA c3 (by decide) (by decide)
    have v50 : ∀ m z, V5 (A 0) m z = V (A 0) m z := fun m z => kj_b hA c3 (by decide) (by decide)
    have q56 : W5 a 56 0 = p4 := by rw [c4 a 56 0 (fun w => absurd w.2 (by decide)), w56]
    have N : ∀ U : dV, f_X12_years_151 U d c a t q = f_X12_years_163 U a t q := fun U => by
      unfold f_X12_years_151
      rw [if_pos ed]
    by_cases eu : u = 0
    · refine FIN V5 W5 h5 Y5 q56 (v5 5 0) (fun Z hZ => CV _ ?_) (fun Z hZ => CW _ ?_)
      · unfold f_X11_drawYear_97
        rw [bq, dv_rem_ok b4.1 (by omega) (by decide) (by decide), ← hd, if_pos ed, bq, g3, dv_bn2 c1, if_pos eu]
        exact hZ
      · rw [if_neg (by omega), dv_bn2 c2, if_pos eu, N]
        exact hZ
    · have hpl : plc (V (A 7)) c x y := by rcases c5 with q | q; exact q.2; exact absurd q eu
      obtain ⟨lx, hlx, hjd⟩ := JX_jd h5
      obtain ⟨V6, W6, tt, d1, d2, d3, d4, d5⟩ := q_cost (c := c) (px := x) (py := y) hjd cb.1 (by rw [v5]; exact cb.2) (by omega) (by omega)
      have kr : kj_fr (A 14) V5 V5 := ⟨fun _ _ _ _ => rfl, fun _ _ => rfl⟩
      have h6 : JX A a 7 V5 W6 := JX_c h5 kr (jm_e d4)
      have Y6 : YF A a V5 W5 V5 W6 := YF_j hA kr (jm_e d4)
      obtain ⟨R, Y7⟩ := y_put (c := c) (x := x) (y := y) (t := tt) h6 (by rw [show V5 (A 7) = V (A 7) from funext fun m => funext fun z => v5 m z]; exact hpl) (by omega) (by omega) d5
      refine FIN _ _ R (YF_t (YF_t Y5 Y6) Y7) ?_ (by rw [u_j (by decide), u_j (by decide), v5]) (fun Z hZ => CV _ ?_) (fun Z hZ => CW _ ?_)
      · rw [u_j (by decide), u_j (by decide), u_j (by decide), d4 a 56 0 (fun w => absurd w.2 (by decide)), q56]
      · unfold f_X11_drawYear_97
        have g53 : V5 (A 0) 3 0 = A 7 := by rw [v50, g3]
        have g63 : dv_u V5 (A 7) 3 c x (A 0) 3 0 = A 7 := by rw [u_b (inj_n hA (by decide) (by decide) (by decide)), g53]
        rw [bq, dv_rem_ok b4.1 (by omega) (by decide) (by decide), ← hd, if_pos ed, bq, g3, dv_bn2 c1, if_neg eu, bq, g53, bq, bq, g63, bq]
        exact hZ
      · have q27 : dv_u (dv_u W6 a 2 (9 + c) x) a 2 (18 + c) y a 2 27 = W6 a 2 27 := by
          rw [u_i (by omega), u_i (by omega)]
        rw [if_neg (by omega), dv_bn2 c2, if_neg eu, dv_bn2 (m_laysAt d2), q27, N]
        exact hZ
end QTM
section QTN
variable {V V' V0 V1 V2 U U1 W W' W0 W1 W2 : dV} {a z s x y u o r n c : Int} {A : Nat → Int} {i : Nat}
theorem y_bare (h : JX A a i V W) : f_X1_bareCells V (A i) = (bar (V (A i)), ()) ∧ f_X12_bareMany W a = (bar (V (A i)), ()) := by
  obtain ⟨-, -, -, -, ⟨hf, kk⟩, -⟩ := h
  refine ⟨q_bareCells kk.1, ?_⟩
  have e0 : ef (fun j z => if j = 10 then kf (W a 2) 0 10 0 else V (A i) j z) (kf (W a 2) 0) := ef_10 (φ := fun j z => if j = 10 then kf (W a 2) 0 10 0 else V (A i) j z) hf rfl
  have hq : qs (sqf (V (A i))) (V (A i) 7 0).toNat = qs (sqf (kf (W a 2) 0)) (kf (W a 2) 0 7 0).toNat := by
    have h0 : fb (fun j z => if j = 10 then kf (W a 2) 0 10 0 else V (A i) j z) := kk.1
    have hq := ef_sqf e0 h0
    exact hq
  have k8 : V (A i) 8 0 = kf (W a 2) 0 8 0 := hf.2.2.2.1
  have k9 : V (A i) 9 0 = kf (W a 2) 0 9 0 := hf.2.2.2.2
  rw [q_bareMany, ← k8, ← k9, ← hq]
  rfl
theorem m_182 {x7 : Int} : ∃ W6 : dV, (∀ b m z, ¬ (b = a ∧ (m = 2 ∨ m = 54)) → W6 b m z = W b m z) ∧ (∀ i, 0 ≤ i → i < 29 → W6 a 54 i = W a 2 i) ∧ (∀ i, 0 ≤ i → i < 29 → W6 a 2 i = W a 5 (29 * 0 + i)) ∧ (∀ z, ¬ (0 ≤ z ∧ z < 29) → W6 a 2 z = W a 2 z) ∧ ∀ r, f_X12_good W6 a x7 = r → dv_lp f_X12_years_182b (W, x7, a, 0) = Sum.inr r := by
  obtain ⟨q, hE, ⟨U, j, rfl, j0, j1, hf, hz⟩, e⟩ := dv_to (b := f_X12_years_182b) (P := fun q => ∃ (U : dV) (j : Int), q = (U, x7, a, j) ∧ 0 ≤ j ∧ j ≤ 29 ∧ (∀ b m z, ¬ (b = a ∧ m = 54) → U b m z = W b m z) ∧ ∀ z, 0 ≤ z → z < j → U a 54 z = W a 2 z) (E := fun q => q.2.2.2 = 29) (m := fun q => (29 - q.2.2.2).toNat) (fun q hq => by
    obtain ⟨U, j, rfl, j0, j1, hf, hz⟩ := hq
    by_cases e : 29 ≤ j
    · exact Or.inl (by dsimp only; omega)
    · rw [f_X12_years_182e]
      unfold f_X12_years_182c
      rw [if_neg e, bq, bq, bq]
      refine Or.inr ⟨_, rfl, ⟨_, j + 1, rfl, by omega, by omega, fun b m z hb => ?_, fun z z0 z1 => ?_⟩, by dsimp only; omega⟩
      · by_cases q : b = a
        · rw [u_j (fun w => hb ⟨q, w⟩)]; exact hf b m z hb
        · rw [u_b q]; exact hf b m z hb
      · rw [u_if]
        by_cases q : z = j
        · subst q
          rw [if_pos rfl]; exact hf a 2 _ (fun q => absurd q.2 (by decide))
        · rw [if_neg q]; exact hz z z0 (by omega)) (W, x7, a, 0) ⟨W, 0, rfl, by decide, by decide, fun _ _ _ _ => rfl, fun z z0 z1 => absurd z1 (by omega)⟩
  have hE : j = 29 := hE
  subst hE
  obtain ⟨W6, e2, f2, l1, l2⟩ := m_takes (W := U) (a := a) (p := 0)
  refine ⟨W6, fun b m z hb => ?_, fun i i0 i1 => ?_, fun i i0 i1 => ?_, fun z hz' => ?_, fun r hr => ?_⟩
  · rw [f2 b m z (fun q => hb ⟨q.1, Or.inl q.2⟩)]
    exact hf b m z (fun q => hb ⟨q.1, Or.inr q.2⟩)
  · rw [f2 a 54 i (fun q => absurd q.2 (by decide))]
    exact hz i i0 i1
  · rw [l1 i i0 i1]
    exact hf a 5 _ (fun q => absurd q.2 (by decide))
  · rw [l2 z hz']
    exact hf a 2 _ (fun q => absurd q.2 (by decide))
  · rw [e]
    refine dv_lp_e ?_
    obtain ⟨r1, r2⟩ := r
    rw [f_X12_years_182e]
    unfold f_X12_years_182c
    rw [if_pos (by decide), dv_bn2 e2, dv_bn2 hr]
/-- all the drawn years -/
theorem years_loop {t : Int} : ∀ (n : Nat) (q p : Int) (V W : dV), (n : Int) = t - q → JX A a 7 V W → W a 56 0 = p → 0 ≤ p ∧ p ≤ 1000002 → 1 ≤ V (A 7) 7 0 → ∃ (V' W' : dV), JX A a 7 V' W' ∧ YF A a V W V' W' ∧ (∀ r, f_X11_answer V' (A 0) (bar (V' (A 7))) = r → dv_lp f_X11_years_67b (V, A 0, t, p, q) = r) ∧ ∀ r, dv_lp f_X12_years_182b (W', bar (V' (A 7)), a, 0) = Sum.inr r → dv_lp f_X12_years_60b (W, a, t, q) = r := by
  intro n
  have E : ∀ (q p : Int) (V W : dV), JX A a 7 V W → (t ≤ q ∨ 999 ≤ V (A 7) 5 0) → ∃ (V' W' : dV), JX A a 7 V' W' ∧ YF A a V W V' W' ∧ (∀ r, f_X11_answer V' (A 0) (bar (V' (A 7))) = r → dv_lp f_X11_years_67b (V, A 0, t, p, q) = r) ∧ ∀ r, dv_lp f_X12_years_182b (W', bar (V' (A 7)), a, 0) = Sum.inr r → dv_lp f_X12_years_60b (W, a, t, q) = r := by
    intro q p V W h hq
    obtain ⟨b1, b2⟩ := y_bare h
    have g3 : V (A 0) 3 0 = A 7 := h.2.1.1.2.2.2.1
    have e50 := (ef9_n h.2.2.2.2.1.1).2.2.2.1
    refine ⟨V, W, h, YF_r, fun r hr => dv_lp_e ?_, fun r hr => dv_lp_e ?_⟩
    · obtain ⟨r1, r2⟩ := r
      rw [f_X11_years_67e]
      unfold f_X11_years_67c f_X11_years_100
      by_cases e : t ≤ q
      · rw [if_pos e, bq, g3, dv_bn2 b1, dv_bn2 hr]
      · rw [if_neg e, bq, g3, bq, if_pos (by omega), bq, dv_bn2 b1, dv_bn2 hr]
    · rw [f_X12_years_60e]
      unfold f_X12_years_60c f_X12_years_174
      by_cases e : t ≤ q
      · rw [if_pos e, dv_bn2 b2]; exact hr
      · rw [if_neg e, bq, if_pos (by omega), dv_bn2 b2]; exact hr
  induction n with
  | zero =>
    intro q p V W hn h _ _ _
    exact E q p V W h (Or.inl (by omega))
  | succ n ih =>
    intro q p V W hn h hp pb h7
    by_cases hy : 999 ≤ V (A 7) 5 0
    · exact E q p V W h (Or.inr hy)
    · obtain ⟨V1, W1, e1, e2, e3, h1, Y1⟩ := one_year (t := t) (q := q) h hp pb h7 (by omega) (by omega)
      have q7 : V1 (A 7) 7 0 = V (A 7) 7 0 := Y1.1 _ _ _ (fun w => absurd w.2 (by decide)) (fun w => inj_n h.1 (by decide) (by decide) (by decide) w.1)
      obtain ⟨V2, W2, h2, Y2, z1, z2⟩ := ih (q + 1) (nx (nx (nx (nx p)))) V1 W1 (by omega) h1 e3 nx_b (by rw [q7]; exact h7)
      refine ⟨V2, W2, h2, YF_t Y1 Y2, fun r hr => ?_, fun r hr => ?_⟩
      · rw [dv_lp_s (t := (V1, A 0, t, nx (nx (nx (nx p))), q + 1))]
        · exact z1 r hr
        · rw [f_X11_years_67e]
          unfold f_X11_years_67c
          rw [if_neg (by omega), bq, h.2.1.1.2.2.2.1, bq, if_neg hy, dv_bn2 e1, bq]
      · rw [dv_lp_s e2]
        exact z2 r hr
theorem L_years {p t : Int} (h : RR A a V W) : ∃ V' W' u, f_X11_years V (A 0) p t = (V', u) ∧ f_X12_years W a p t = (W', u) ∧ RR A a V' W' := by
  have hA := h.1
  obtain ⟨g0, g1, -⟩ := RR_G h
  have g3 : V (A 0) 3 0 = A 7 := h.2.1.1.2.2.2.1
  obtain ⟨kk, e7, e8, e9, e10, e50, e51, e52, ec⟩ := RR_n h
  have n9 := kk.1.1
  by_cases hpt : (0 ≤ p ∧ p ≤ 1000000) ∧ 1 ≤ t ∧ t ≤ 60
  case neg =>
    obtain ⟨V2, W2, r1, r2, r3⟩ := RR_bad (k := -1) h (Or.inl ⟨rfl, rfl, rfl⟩)
    refine ⟨V2, W2, -1, ?_, ?_, r3⟩
    · unfold f_X11_years f_X11_years_22
      by_cases q1 : p < 0
      · rw [if_pos q1, dv_bn2 r1]
      · by_cases q2 : 1000000 < p
        · rw [if_neg q1, if_pos q2, dv_bn2 r1]
        · by_cases q3 : t < 1
          · rw [if_neg q1, if_neg q2, if_pos q3, dv_bn2 r1]
          · rw [if_neg q1, if_neg q2, if_neg q3, if_neg (by omega), dv_bn2 r1]
    · unfold f_X12_years f_X12_years_20
      rw [bq2, q_lies]
      dsimp only
      by_cases q1 : 0 ≤ p ∧ p ≤ 1000000
      · rw [if_pos q1, if_neg (by decide), bq2, q_lies]
        dsimp only
        rw [if_neg (fun w => hpt ⟨q1, w⟩), if_neg (fun w => w rfl), dv_bn2 r2]
      · rw [if_neg q1, if_pos rfl, dv_bn2 r2]
  case pos =>
    obtain ⟨hp, ht⟩ := hpt
    have lp : f_X12_lies W p 0 1000000 = (1, ()) := by rw [q_lies, if_pos hp]
    have lt : f_X12_lies W t 1 60 = (1, ()) := by rw [q_lies, if_pos ht]
    by_cases hn : V (A 4) 7 0 = 0
    · obtain ⟨V2, W2, r1, r2, r3⟩ := RR_bad (k := -3) h (Or.inr (Or.inr (Or.inl ⟨rfl, rfl, rfl⟩)))
      refine ⟨V2, W2, -3, ?_, ?_, r3⟩
      · unfold f_X11_years
        rw [if_neg (by omega), if_neg (by omega), if_neg (by omega), if_pos ht.2, bq, g0, bq, g1, bq, if_neg (fun w => w hn), dv_bn2 r1]
      · unfold f_X12_years
        rw [dv_bn2 lp, if_neg (by decide), dv_bn2 lt, if_pos (by decide), dv_bn2 q_many, if_neg (fun w => w (by omega)), dv_bn2 r2]
    · obtain ⟨V1, c1, c2, c3⟩ := c_copy (V := V) (d := A 7) (s := A 4) (inj_n hA (by decide) (by decide) (by decide))
      have c3 : fe (V (A 4)) (V1 (A 7)) := c3
      obtain ⟨W1, m1, m2, m3, -⟩ := m_aside (W := dv_u (dv_u W a 56 0 p) a 55 0 (W a 2 69)) (a := a) (p := 0)
      have w1 : ∀ m z, m ≠ 5 → m ≠ 55 → m ≠ 56 → W1 a m z = W a m z := fun m z h5 h55 h56 => by
        rw [m2 a m z (fun q => h5 q.2), u_j h55, u_j h56]
      have w12 : ∀ z, W1 a 2 z = W a 2 z := fun z => w1 2 z (by decide) (by decide) (by decide)
      have F1 : cf A (fun i m => i == 7) V V1 := fun i m z hi hm hL => c2 _ m z (fun q => by
        have := hA.1 i 7 hi (by decide) q.1
        subst this
        cases hL)
      have h1 : JX A a 7 V1 W1 := by
        obtain ⟨-, hG, ⟨⟨hf, -⟩, -, hl⟩, -, -, -, -, -, -, hr⟩ := id h
        have h27 := kk.2.2.2.2.2.1
        refine ⟨hA, G_c hG (cf_ag F1 rfl), laR_c (by decide) hl (cf_ag F1 rfl) (fun z _ => w12 _), rdR_c hr (fun z => F1 10 1 z (by decide) (by decide) rfl) (fun z _ => F1 14 1 z (by decide) (by decide) rfl) (fun z => w1 7 z (by decide) (by decide) (by decide)) (fun z => w1 17 z (by decide) (by decide) (by decide)), ⟨?_, fe_kg c3 kk⟩, Or.inr rfl, by rw [w12]; omega⟩
        rw [show W1 a 2 = W a 2 from funext w12]
        exact ef_9 (fe_ef c3 hf)
      have q7 : V1 (A 7) 7 0 = V (A 4) 7 0 := c3.2.2.1
      obtain ⟨V2, W2, h2, Y2, z1, z2⟩ := years_loop (t := t) t.toNat 0 p V1 W1 (by omega) h1 (by rw [m2 a 56 0 (fun q => absurd q.2 (by decide)), u_j (by decide), u_e]) (by omega) (by rw [q7]; omega)
      obtain ⟨W3, y1, y2, y3, y4, y5⟩ := m_182 (W := W2) (a := a) (x7 := bar (V2 (A 7)))
      -- the relation again
      have FF : cf A (fun i m => i == 7 || (i == 14 && m ≤ 3)) V V2 := cf_t (cf_m F1 (fun i m hL => by simp only [Bool.or_eq_false_iff] at hL; exact hL.1)) (fun i m z hi hm hL => Y2.1 _ m z (fun q => by
        have := hA.1 i 7 hi (by decide) q.1
        subst this
        simp at hL) (fun q => by
        have := hA.1 i 14 hi (by decide) q.1
        subst this
        simp at hL; omega))
      have GG : ∀ m z, m ≠ 2 → m ≠ 5 → ¬ (22 ≤ m ∧ m ≤ 26) → ¬ (29 ≤ m ∧ m ≤ 30) → ¬ (54 ≤ m ∧ m ≤ 56) → W3 a m z = W a m z := fun m z n2 n5 n22 n29 n54 => by
        rw [y1 a m z (fun q => by have := q.2; omega), Y2.2.2.2.1 a m z (fun q => by have := q.2; omega), w1 m z (by omega) (by omega) (by omega)]
      have K2 : ∀ z, 0 ≤ z → W3 a 2 z = W a 2 z := fun z z0 => by
        by_cases q : z < 29
        · rw [y3 z z0 q, Y2.2.2.2.1 a 5 _ (fun q => absurd q.2 (by decide)), m3 z z0 q, u_j (by decide), u_j (by decide)]
        · rw [y4 z (by omega), Y2.2.2.2.2 z (by omega), w12]
      have R : RR A a V2 W3 := by
        obtain ⟨-, hG, hs, hi, htp, hps, -, hmi, hta, hrd⟩ := id h
        obtain ⟨e7', -, -, -, -, -, ec'⟩ := ef9_n h2.2.2.2.2.1.1
        have v7 : V2 (A 7) 7 0 = V (A 4) 7 0 := by
          rw [Y2.1 _ _ _ (fun w => absurd w.2 (by decide)) (fun w => inj_n hA (by decide) (by decide) (by decide) w.1), q7]
        have g : ∀ m z, m ≠ 2 → m ≠ 5 → ¬ (22 ≤ m ∧ m ≤ 26) → ¬ (29 ≤ m ∧ m ≤ 30) → ¬ (54 ≤ m ∧ m ≤ 56) → W3 a m z = W a m z := GG
        refine ⟨hA, G_c hG (cf_ag FF rfl), stR_c (by decide) hs (cf_ag FF rfl) (fun z hz => by rw [Int.zero_add]; exact K2 z hz.1), imR_c hi (cf_ag FF rfl) (fun z => g 3 z (by decide) (by decide) (by decide) (by decide) (by decide)) (fun z => g 4 z (by decide) (by decide) (by decide) (by decide) (by decide)), tpR_c htp (cf_ag FF rfl) (fun z => g 11 z (by decide) (by decide) (by decide) (by decide) (by decide)) (g 13 0 (by decide) (by decide) (by decide) (by decide) (by decide)), psR_c hps (cf_ag FF rfl) (fun z => g 31 z (by decide) (by decide) (by decide) (by decide) (by decide)) (g 33 0 (by decide) (by decide) (by decide) (by decide) (by decide)), ⟨?_, by rw [v7]; omega, fun c c0 c9 => ?_⟩, miR_c hmi (cf_ag FF rfl) (g 0 0 (by decide) (by decide) (by decide) (by decide) (by decide)) (fun z => g 1 z (by decide) (by decide) (by decide) (by decide) (by decide)), taR_c hta (cf_ag FF rfl) (g 14 0 (by decide) (by decide) (by decide) (by decide) (by decide)) (g 6 0 (by decide) (by decide) (by decide) (by decide) (by decide)) (g 47 0 (by decide) (by decide) (by decide) (by decide) (by decide)), rdR_c hrd (fun z => FF 10 1 z (by decide) (by decide) rfl) (fun z z8 => ?_) (fun z => g 7 z (by decide) (by decide) (by decide) (by decide) (by decide)) (fun z => g 17 z (by decide) (by decide) (by decide) (by decide) (by decide))⟩
        · left
          rw [v7, e7, y1 a 55 0 (fun q => absurd q.2 (by decide)), Y2.2.2.2.1 a 55 0 (fun q => absurd q.2 (by decide)), m2 a 55 0 (fun q => absurd q.2 (by decide)), u_e]
        · obtain ⟨-, -, r2, r3, r4⟩ := ec' c c0 c9
          rw [y2 c c0 (by omega), y2 (9 + c) (by omega) (by omega), y2 (18 + c) (by omega) (by omega)]
          exact ⟨r2, r3, r4⟩
        · rw [Y2.2.2.1 z z8]
          exact F1 14 1 z (by decide) (by decide) rfl
      obtain ⟨V4, W4, r1, r2, r3⟩ := RR_good (t := bar (V2 (A 7))) R (bar_b h2.2.2.2.2.1.2).1
      refine ⟨V4, W4, bar (V2 (A 7)), ?_, ?_, r3⟩
      · unfold f_X11_years
        rw [if_neg (by omega), if_neg (by omega), if_neg (by omega), if_pos ht.2, bq, g0, bq, g1, bq, if_pos hn, bq, g3, bq, bq, g1, dv_bn2 c1]
        exact z1 _ r1
      · unfold f_X12_years
        rw [dv_bn2 lp, if_neg (by decide), dv_bn2 lt, if_pos (by decide), dv_bn2 q_many, if_pos (by omega), bq, dv_bn2 q_many, u_j (show (2 : Nat) ≠ 56 by decide), bq, dv_bn2 m1]
        exact z2 _ (y5 _ r2)
end QTN
section QTO
variable {V V' V0 V1 V2 U U1 W W' W0 W1 W2 : dV} {a b z x y u o r n c : Int} {A : Nat → Int} {K : Int → Int} {d s i : Nat}
/-- rows have nothing ahead of their first place -/
def NG (V : dV) : Prop := ∀ b m z, z < 0 → V b m z = 0
/-- two texts tell the same -/
def tq (V : dV) (x : Int) (V' : dV) (x' : Int) : Prop := (∀ z, z < V x 2 0 → V' x' 0 z = V x 0 z) ∧ (∀ z, 0 ≤ z → z < V x 3 0 * 8 → V' x' 1 z = V x 1 z) ∧ V' x' 2 0 = V x 2 0 ∧ V' x' 3 0 = V x 3 0
theorem c_text {e f : Int} (h : e ≠ f) (ng : ∀ z, z < 0 → V e 0 z = V f 0 z) : ∃ V', f_X10_copyFrom V e f = (V', 0) ∧ (∀ b m z, ¬ (b = e ∧ m ≤ 3) → V' b m z = V b m z) ∧ tq V f V' e ∧ ∀ z, z < 0 → V' e 0 z = V e 0 z := by
  have h' := Ne.symm h
  unfold f_X10_copyFrom
  rw [bq, bq, bq, bq, bq, bq, bq, bq, bq]
  have k2 : dv_c V f 0 0 e 0 0 (V f 2 0) f 3 0 = V f 3 0 := cp_b h'
  refine ⟨_, rfl, fun b m z hb => ?_, ⟨fun z hz => ?_, fun z z0 z1 => ?_, ?_, ?_⟩, fun z hz => ?_⟩
  · by_cases q : b = e
    · have hm : m ≠ 3 ∧ m ≠ 2 ∧ m ≠ 1 ∧ m ≠ 0 := by
        by_cases w : m ≤ 3
        · exact absurd ⟨q, w⟩ hb
        · omega
      rw [u_j hm.1, u_j hm.2.1, cp_j hm.2.2.1, cp_j hm.2.2.2]
    · rw [u_b q, u_b q, cp_b q, cp_b q]
  · rw [u_j (by decide), u_j (by decide), cp_j (by decide)]
    by_cases q : 0 ≤ z
    · rw [cp_in (by omega), show (0 : Int) + (z - 0) = z by omega]
    · rw [cp_out (by omega)]
      exact ng z (by omega)
  · rw [u_j (by decide), u_j (by decide), k2, cp_in (by omega), cp_b h', show (0 : Int) + (z - 0) = z by omega]
  · rw [u_j (by decide), u_e, cp_b h', cp_b h']
  · rw [u_e, u_b h', cp_b h', cp_b h']
  · rw [u_j (by decide), u_j (by decide), cp_j (by decide), cp_out (by omega)]
theorem tq_txR {f e : Int} {t : Int} (h : txR f V K b t) (q : tq V f V' e) : txR e V' K b t := txR_k h q.1 q.2.1 q.2.2.1 q.2.2.2 rfl (fun _ _ _ => ⟨rfl, rfl⟩)
/-- what copying a stand changes -/
def sd_fr (A : Nat → Int) (d : Nat) (V V' : dV) : Prop := ∀ b m z, ¬ (b = A (1 + d) ∧ 2 ≤ m ∧ m ≤ 7) → ¬ (b = A (4 + d) ∧ m ≤ 10 ∧ m ≠ 6) → (∀ t : Nat, t < 6 → ¬ (b = A (20 + 6 * d + t) ∧ m ≤ 3)) → V' b m z = V b m z
/-- a stand is copied -/
theorem c_stand (hA : inj A) (hG : G A V) (ng : NG V) (hd : d < 3) (hs : s < 3) (ds : d ≠ s) (hst : stR A s V K b) : ∃ V', f_X8_copyFrom V (A (1 + d)) (A (1 + s)) = (V', 0) ∧ sd_fr A d V V' ∧ stR A d V' K b := by
  obtain ⟨⟨hf, hk⟩, ⟨s1, s2, s3⟩, ⟨l1, l2, l3, l4, l5⟩⟩ := hst
  obtain ⟨gd0, gd1⟩ := hG.2.2.2 d hd
  obtain ⟨gs0, gs1⟩ := hG.2.2.2 s hs
  obtain ⟨V1, e1, f1, c1⟩ := c_copy (V := V) (d := A (4 + d)) (s := A (4 + s)) (inj_n hA (by omega) (by omega) (by omega))
  have c1 : fe (V (A (4 + s))) (V1 (A (4 + d))) := c1
  have L : ∃ V2 : dV, (∀ b m z, (∀ t : Nat, t < 6 → ¬ (b = A (20 + 6 * d + t) ∧ m ≤ 3)) → V2 b m z = V1 b m z) ∧ (∀ t : Nat, (t : Int) < V (A (1 + s)) 5 0 → tq V (A (20 + 6 * s + t)) V2 (A (20 + 6 * d + t))) ∧ dv_lp f_X8_copyFrom_13b (V1, A (1 + d), A (1 + s), 0) = dv_lp f_X8_copyFrom_13b (V2, A (1 + d), A (1 + s), V (A (1 + s)) 5 0) := by
    obtain ⟨q, hE, ⟨U, j, rfl, j0, hU, hn, ht⟩, e⟩ := dv_to (b := f_X8_copyFrom_13b) (P := fun q => ∃ (U : dV) (j : Nat), q = (U, A (1 + d), A (1 + s), (j : Int)) ∧ (j : Int) ≤ V (A (1 + s)) 5 0 ∧ (∀ b m z, (∀ t : Nat, t < 6 → ¬ (b = A (20 + 6 * d + t) ∧ m ≤ 3)) → U b m z = V1 b m z) ∧ (∀ t : Nat, t < 6 → ∀ z, z < 0 → U (A (20 + 6 * d + t)) 0 z = 0) ∧ ∀ t : Nat, t < j → tq V (A (20 + 6 * s + t)) U (A (20 + 6 * d + t))) (E := fun q => q.2.2.2 = V (A (1 + s)) 5 0) (m := fun q => (V (A (1 + s)) 5 0 - q.2.2.2).toNat) (fun q hq => by
      obtain ⟨U, j, rfl, j0, hU, hn, ht⟩ := hq
      by_cases e : V (A (1 + s)) 5 0 ≤ (j : Int)
      · exact Or.inl (by dsimp only; omega)
      · have j6 : j < 6 := by omega
        have us : ∀ (q m : Nat) (z : Int), q < 38 → ¬ (20 + 6 * d ≤ q ∧ q < 26 + 6 * d) → U (A q) m z = V1 (A q) m z := fun q m z hq hn => hU _ m z (fun t ht w => by
          have := hA.1 q (20 + 6 * d + t) hq (by omega) w.1
          omega)
        have v1 : ∀ (q m : Nat) (z : Int), q < 38 → q ≠ 4 + d → V1 (A q) m z = V (A q) m z := fun q m z hq hn => f1 _ m z (fun w => inj_n hA hq (by omega) hn w.1)
        have usd : ∀ m z, U (A (1 + d)) m z = V (A (1 + d)) m z := fun m z => by rw [us (1 + d) m z (by omega) (by omega), v1 (1 + d) m z (by omega) (by omega)]
        have uss : ∀ m z, U (A (1 + s)) m z = V (A (1 + s)) m z := fun m z => by rw [us (1 + s) m z (by omega) (by omega), v1 (1 + s) m z (by omega) (by omega)]
        have uts : ∀ (t : Nat) (m : Nat) (z : Int), t < 6 → U (A (20 + 6 * s + t)) m z = V (A (20 + 6 * s + t)) m z := fun t m z ht => by rw [us _ m z (by omega) (by omega), v1 _ m z (by omega) (by omega)]
        obtain ⟨U2, e2, f2, c2, n2⟩ := c_text (V := U) (e := A (20 + 6 * d + j)) (f := A (20 + 6 * s + j)) (inj_n hA (by omega) (by omega) (by omega)) (fun z hz => by rw [hn j j6 z hz, uts j 0 z j6, ng _ _ z hz])
        rw [f_X8_copyFrom_13e]
        unfold f_X8_copyFrom_13c
        rw [bq, uss, if_neg e, bq, usd, gd1 j j6, bq, uss, gs1 j j6, dv_bn2 e2, bq]
        refine Or.inr ⟨_, rfl, ⟨U2, j + 1, rfl, by omega, fun b m z hb => ?_, fun t ht z hz => ?_, fun t ht' => ?_⟩, by dsimp only; omega⟩
        · rw [f2 b m z (fun w => hb j j6 w)]
          exact hU b m z hb
        · by_cases q : t = j
          · subst q
            rw [n2 z hz]
            exact hn t (by omega) z hz
          · rw [f2 _ 0 z (fun w => inj_n hA (by omega) (by omega) (by omega) w.1)]
            exact hn t ht z hz
        · by_cases q : t = j
          · subst q
            have E0 : ∀ m z, U (A (20 + 6 * s + t)) m z = V (A (20 + 6 * s + t)) m z := fun m z => uts t m z (by omega)
            unfold tq at c2
            simp only [E0] at c2
            exact c2
          · have := ht t (by omega)
            have E1 : ∀ m z, U2 (A (20 + 6 * d + t)) m z = U (A (20 + 6 * d + t)) m z := fun m z => f2 _ m z (fun w => inj_n hA (by omega) (by omega) (by omega) w.1)
            unfold tq
            simp only [E1]
            exact this) (V1, A (1 + d), A (1 + s), 0) ⟨V1, 0, rfl, by omega, fun _ _ _ _ => rfl, fun t ht z hz => by
        rw [f1 _ 0 z (fun w => inj_n hA (by omega) (by omega) (by omega) w.1)]
        exact ng _ _ z hz, fun t ht => absurd ht (by omega)⟩
    have hE : (j : Int) = V (A (1 + s)) 5 0 := hE
    rw [hE] at e
    exact ⟨U, hU, fun t ht' => ht t (by omega), e⟩
  obtain ⟨V2, f2, c2, e2⟩ := L
  have us : ∀ (q m : Nat) (z : Int), q < 38 → ¬ (20 + 6 * d ≤ q ∧ q < 26 + 6 * d) → V2 (A q) m z = V1 (A q) m z := fun q m z hq hn => f2 _ m z (fun t ht w => by
    have := hA.1 q (20 + 6 * d + t) hq (by omega) w.1
    omega)
  have v1 : ∀ (q m : Nat) (z : Int), q < 38 → q ≠ 4 + d → V1 (A q) m z = V (A q) m z := fun q m z hq hn => f1 _ m z (fun w => inj_n hA hq (by omega) hn w.1)
  have uss : ∀ m z, V2 (A (1 + s)) m z = V (A (1 + s)) m z := fun m z => by rw [us (1 + s) m z (by omega) (by omega), v1 (1 + s) m z (by omega) (by omega)]
  have n1 : A (1 + s) ≠ A (1 + d) := inj_n hA (by omega) (by omega) (by omega)
  -- the end of it
  have K3 : ∃ V3 : dV, f_X8_copyFrom_13b (V2, A (1 + d), A (1 + s), V (A (1 + s)) 5 0) = Sum.inr (V3, 0) ∧ (∀ b m z, ¬ (b = A (1 + d) ∧ 2 ≤ m ∧ m ≤ 7) → V3 b m z = V2 b m z) ∧ (∀ z, 0 ≤ z → z < 6 → V3 (A (1 + d)) 2 z = V (A (1 + s)) 2 z ∧ V3 (A (1 + d)) 3 z = V (A (1 + s)) 3 z ∧ V3 (A (1 + d)) 4 z = V (A (1 + s)) 4 z) ∧ V3 (A (1 + d)) 5 0 = V (A (1 + s)) 5 0 ∧ V3 (A (1 + d)) 6 0 = V (A (1 + s)) 6 0 ∧ V3 (A (1 + d)) 7 0 = V (A (1 + s)) 7 0 := by
    rw [f_X8_copyFrom_13e]
    unfold f_X8_copyFrom_13c
    rw [bq, uss, if_pos (Int.le_refl _), bq, bq, bq, bq, bq, bq, bq, bq, bq]
    refine ⟨_, rfl, fun b m z hb => ?_, fun z z0 z6 => ⟨?_, ?_, ?_⟩, ?_, ?_, ?_⟩
    · by_cases q : b = A (1 + d)
      · have hm : m ≠ 7 ∧ m ≠ 6 ∧ m ≠ 5 ∧ m ≠ 4 ∧ m ≠ 3 ∧ m ≠ 2 := by
          by_cases w : 2 ≤ m ∧ m ≤ 7
          · exact absurd ⟨q, w⟩ hb
          · omega
        obtain ⟨m7, m6, m5, m4, m3, m2⟩ := hm
        rw [u_j m7, u_j m6, u_j m5, cp_j m4, cp_j m3, cp_j m2]
      · rw [u_b q, u_b q, u_b q, cp_b q, cp_b q, cp_b q]
    · rw [u_j (by decide), u_j (by decide), u_j (by decide), cp_j (by decide), cp_j (by decide), cp_in (by omega), uss, show (0 : Int) + (z - 0) = z by omega]
    · rw [u_j (by decide), u_j (by decide), u_j (by decide), cp_j (by decide), cp_in (by omega), cp_b n1, uss, show (0 : Int) + (z - 0) = z by omega]
    · rw [u_j (by decide), u_j (by decide), u_j (by decide), cp_in (by omega), cp_b n1, cp_b n1, uss, show (0 : Int) + (z - 0) = z by omega]
    · rw [u_j (by decide), u_j (by decide), u_e, cp_b n1, cp_b n1, cp_b n1, uss]
    · rw [u_j (by decide), u_e, u_b n1, cp_b n1, cp_b n1, cp_b n1, uss]
    · rw [u_e, u_b n1, u_b n1, cp_b n1, cp_b n1, cp_b n1, uss]
  obtain ⟨V3, e3, f3, r1, r5, r6, r7⟩ := K3
  refine ⟨V3, ?_, fun b m z h1 h2 h3 => ?_, ⟨⟨?_, ?_⟩, ⟨by rw [r7]; exact s1, by rw [r7]; exact s2, fun z z0 z1 => ?_⟩, ⟨by rw [r5]; exact l1, by rw [r5]; exact l2, by rw [r6]; exact l3, by rw [r5, r6]; exact l4, fun t ht => ?_⟩⟩⟩
  · unfold f_X8_copyFrom
    rw [bq, gd0, bq, gs0, dv_bn2 e1, e2]
    exact dv_lp_e e3
  · rw [f3 b m z h1, f2 b m z h3, f1 b m z h2]
  · have q : V3 (A (4 + d)) = V1 (A (4 + d)) := funext fun m => funext fun z => by
      rw [f3 _ m z (fun w => inj_n hA (by omega) (by omega) (by omega) w.1), us (4 + d) m z (by omega) (by omega)]
    rw [q]
    exact fe_ef c1 hf
  · have q : V3 (A (4 + d)) = V1 (A (4 + d)) := funext fun m => funext fun z => by
      rw [f3 _ m z (fun w => inj_n hA (by omega) (by omega) (by omega) w.1), us (4 + d) m z (by omega) (by omega)]
    rw [q]
    exact fe_kg c1 hk
  · rw [r7] at z1
    obtain ⟨q2, q3, q4⟩ := r1 z z0 (by omega)
    rw [q2, q3, q4]
    exact s3 z z0 z1
  · rw [r5] at ht
    have q : ∀ m z, V3 (A (20 + 6 * d + t)) m z = V2 (A (20 + 6 * d + t)) m z := fun m z => f3 _ m z (fun w => inj_n hA (by omega) (by omega) (by omega) w.1)
    have k := tq_txR (l5 t ht) (c2 t ht)
    unfold txR at k ⊢
    rw [show V3 (A (20 + 6 * d + t)) 0 = V2 (A (20 + 6 * d + t)) 0 from funext (q 0), show V3 (A (20 + 6 * d + t)) 1 = V2 (A (20 + 6 * d + t)) 1 from funext (q 1), q, q]
    exact k
end QTO
section QTP
variable {V V' V0 V1 V2 V3 U U1 W W' W0 W1 W2 W5 : dV} {a b z x y u o r n c p : Int} {A : Nat → Int} {K : Int → Int} {d s i k : Nat}
theorem m_img : ∃ W5 : dV, (∀ b m z, ¬ (b = a ∧ m = 3) → W5 b m z = W b m z) ∧ (∀ z, 0 ≤ z → z < 5680 → W5 a 3 (5680 * p + z) = W a 2 z) ∧ (∀ z, ¬ (5680 * p ≤ z ∧ z < 5680 * p + 5680) → W5 a 3 z = W a 3 z) ∧ ∀ r, f_X12_good (dv_u W5 a 4 p 1) a 0 = r → dv_lp f_X12_image_17b (W, a, p, 0) = r := by
  obtain ⟨q, hE, ⟨U, j, rfl, j0, j1, hf, hz, hn⟩, e⟩ := dv_to (b := f_X12_image_17b) (P := fun q => ∃ (U : dV) (j : Int), q = (U, a, p, j) ∧ 0 ≤ j ∧ j ≤ 5680 ∧ (∀ b m z, ¬ (b = a ∧ m = 3) → U b m z = W b m z) ∧ (∀ z, 0 ≤ z → z < j → U a 3 (5680 * p + z) = W a 2 z) ∧ ∀ z, ¬ (5680 * p ≤ z ∧ z < 5680 * p + 5680) → U a 3 z = W a 3 z) (E := fun q => q.2.2.2 = 5680) (m := fun q => (5680 - q.2.2.2).toNat) (fun q hq => by
    obtain ⟨U, j, rfl, j0, j1, hf, hz, hn⟩ := hq
    by_cases e : 5680 ≤ j
    · exact Or.inl (by dsimp only; omega)
    · rw [f_X12_image_17e]
      unfold f_X12_image_17c
      rw [if_neg e, bq, bq, bq, bq, bq]
      refine Or.inr ⟨_, rfl, ⟨_, j + 1, rfl, by omega, by omega, fun b m z hb => ?_, fun z z0 z1 => ?_, fun z hz' => ?_⟩, by dsimp only; omega⟩
      · by_cases q : b = a
        · rw [u_j (fun w => hb ⟨q, w⟩)]; exact hf b m z hb
        · rw [u_b q]; exact hf b m z hb
      · rw [u_if]
        by_cases q : z = j
        · subst q
          rw [if_pos rfl]; exact hf a 2 _ (fun q => absurd q.2 (by decide))
        · rw [if_neg (by omega)]; exact hz z z0 (by omega)
      · rw [u_i (by omega)]; exact hn z hz') (W, a, p, 0) ⟨W, 0, rfl, by decide, by decide, fun _ _ _ _ => rfl, fun z z0 z1 => absurd z1 (by omega), fun _ _ => rfl⟩
  have hE : j = 5680 := hE
  subst hE
  refine ⟨U, hf, hz, hn, fun r hr => ?_⟩
  rw [e]
  refine dv_lp_e ?_
  obtain ⟨r1, r2⟩ := r
  rw [f_X12_image_17e]
  unfold f_X12_image_17c
  rw [if_pos (by decide), bq, dv_bn2 hr]
theorem m_bck : ∃ W5 : dV, (∀ b m z, ¬ (b = a ∧ m = 2) → W5 b m z = W b m z) ∧ (∀ z, 0 ≤ z → z < 5680 → W5 a 2 z = W a 3 (5680 * p + z)) ∧ ∀ r, f_X12_good (dv_u W5 a 33 0 0) a 0 = r → dv_lp f_X12_back_33b (W, a, p, 0) = r := by
  obtain ⟨q, hE, ⟨U, j, rfl, j0, j1, hf, hz⟩, e⟩ := dv_to (b := f_X12_back_33b) (P := fun q => ∃ (U : dV) (j : Int), q = (U, a, p, j) ∧ 0 ≤ j ∧ j ≤ 5680 ∧ (∀ b m z, ¬ (b = a ∧ m = 2) → U b m z = W b m z) ∧ ∀ z, 0 ≤ z → z < j → U a 2 z = W a 3 (5680 * p + z)) (E := fun q => q.2.2.2 = 5680) (m := fun q => (5680 - q.2.2.2).toNat) (fun q hq => by
    obtain ⟨U, j, rfl, j0, j1, hf, hz⟩ := hq
    by_cases e : 5680 ≤ j
    · exact Or.inl (by dsimp only; omega)
    · rw [f_X12_back_33e]
      unfold f_X12_back_33c
      rw [if_neg e, bq, bq, bq, bq, bq]
      refine Or.inr ⟨_, rfl, ⟨_, j + 1, rfl, by omega, by omega, fun b m z hb => ?_, fun z z0 z1 => ?_⟩, by dsimp only; omega⟩
      · by_cases q : b = a
        · rw [u_j (fun w => hb ⟨q, w⟩)]; exact hf b m z hb
        · rw [u_b q]; exact hf b m z hb
      · rw [u_if]
        by_cases q : z = j
        · subst q
          rw [if_pos rfl]; exact hf a 3 _ (fun q => absurd q.2 (by decide))
        · rw [if_neg q]; exact hz z z0 (by omega)) (W, a, p, 0) ⟨W, 0, rfl, by decide, by decide, fun _ _ _ _ => rfl, fun z z0 z1 => absurd z1 (by omega)⟩
  have hE : j = 5680 := hE
  subst hE
  refine ⟨U, hf, hz, fun r hr => ?_⟩
  rw [e]
  refine dv_lp_e ?_
  obtain ⟨r1, r2⟩ := r
  rw [f_X12_back_33e]
  unfold f_X12_back_33c f_X12_settled
  rw [if_pos (by decide), bq, dv_bn2 hr, bq2]
def im_L (k i m : Nat) : Bool := (i == 0 && m == 2) || (i == 2 + k && (2 ≤ m && m ≤ 7)) || (i == 5 + k && m ≤ 10) || (26 + 6 * k ≤ i && i < 32 + 6 * k)
theorem sd_cf (hA : inj A) (f : sd_fr A d V V') (hd : d < 3) : cf A (fun i m => (i == 1 + d && (2 ≤ m && m ≤ 7)) || (i == 4 + d && m ≤ 10) || (20 + 6 * d ≤ i && i < 26 + 6 * d)) V V' := fun i m z hi hm hL => by
  simp only [Bool.or_eq_false_iff, Bool.and_eq_false_iff, beq_eq_false_iff_ne, decide_eq_false_iff_not, ne_eq] at hL
  refine f _ m z (fun w => ?_) (fun w => ?_) (fun t ht w => ?_)
  · have := hA.1 i (1 + d) hi (by omega) w.1
    omega
  · have := hA.1 i (4 + d) hi (by omega) w.1
    omega
  · have := hA.1 i (20 + 6 * d + t) hi (by omega) w.1
    omega
theorem L_image (h : RR A a V W) (ng : NG V) : ∃ V' W' u, f_X11_image V (A 0) p = (V', u) ∧ f_X12_image W a p = (W', u) ∧ RR A a V' W' := by
  have hA := h.1
  obtain ⟨g0, g1, -⟩ := RR_G h
  by_cases hp : 0 ≤ p ∧ p ≤ 1
  case neg =>
    obtain ⟨V2, W2, r1, r2, r3⟩ := RR_bad (k := -1) h (Or.inl ⟨rfl, rfl, rfl⟩)
    refine ⟨V2, W2, -1, ?_, ?_, r3⟩
    · unfold f_X11_image f_X11_image_9
      by_cases q : p < 0
      · rw [if_pos q, dv_bn2 r1]
      · rw [if_neg q, if_neg (by omega), dv_bn2 r1]
    · unfold f_X12_image
      rw [bq2, q_lies]
      dsimp only
      rw [if_neg hp, if_neg (fun w => w rfl), dv_bn2 r2]
  case pos =>
    obtain ⟨k, hk⟩ : ∃ k : Nat, (k : Int) = p := ⟨p.toNat, by omega⟩
    have k2 : k = 0 ∨ k = 1 := by omega
    have gi : V (A 0) 1 p = A (1 + (k + 1)) := by
      obtain ⟨-, q2, q3, -⟩ := h.2.1.1
      rcases k2 with rfl | rfl
      · rw [← hk]; exact q2
      · rw [← hk]; exact q3
    obtain ⟨V3, e1, f1, st⟩ := c_stand hA h.2.1 ng (d := k + 1) (s := 0) (by omega) (by decide) (by omega) h.2.2.1
    have e1 : f_X8_copyFrom V (A (1 + (k + 1))) (A 1) = (V3, 0) := e1
    obtain ⟨W5, m1, m2, m3, m4⟩ := m_img (W := W) (a := a) (p := p)
    have F : cf A (im_L k) V (dv_u V3 (A 0) 2 p 1) := cf_t (cf_m (sd_cf hA f1 (by omega)) (fun i m hL => by
      unfold im_L at hL
      simp only [Bool.or_eq_false_iff, Bool.and_eq_false_iff, beq_eq_false_iff_ne, decide_eq_false_iff_not, ne_eq] at hL ⊢
      omega)) (cf_u hA (by decide) (by unfold im_L; simp))
    have GW : wf a (fun m => m == 3 || m == 4) W (dv_u W5 a 4 p 1) := wf_t (wf_b m1 rfl) (wf_u rfl)
    have R : RR A a (dv_u V3 (A 0) 2 p 1) (dv_u W5 a 4 p 1) := by
      obtain ⟨-, h2, h3, h4, h5, h6, h7, h8, h9, h10⟩ := id h
      refine ⟨hA, G_c h2 (cf_ag F (by rcases k2 with rfl | rfl <;> rfl)), stR_c (by decide) h3 (cf_ag F (by rcases k2 with rfl | rfl <;> rfl)) (fun z _ => GW 2 _ rfl), fun j hj => ?_, tpR_c h5 (cf_ag F (by rcases k2 with rfl | rfl <;> rfl)) (fun z => GW 11 z rfl) (GW 13 0 rfl), psR_c h6 (cf_ag F (by rcases k2 with rfl | rfl <;> rfl)) (fun z => GW 31 z rfl) (GW 33 0 rfl), ppR_c h7 (cf_ag F (by rcases k2 with rfl | rfl <;> rfl)) (fun z => GW 54 z rfl) (GW 55 0 rfl), miR_c h8 (cf_ag F (by rcases k2 with rfl | rfl <;> rfl)) (GW 0 0 rfl) (fun z => GW 1 z rfl), taR_c h9 (cf_ag F (by rcases k2 with rfl | rfl <;> rfl)) (GW 14 0 rfl) (GW 6 0 rfl) (GW 47 0 rfl), rdR_c h10 (fun z => F 10 1 z (by decide) (by decide) (by rcases k2 with rfl | rfl <;> rfl)) (fun z _ => F 14 1 z (by decide) (by decide) (by rcases k2 with rfl | rfl <;> rfl)) (fun z => GW 7 z rfl) (fun z => GW 17 z rfl)⟩
      have w3 : ∀ z, dv_u W5 a 4 p 1 a 3 z = W5 a 3 z := fun z => u_j (by decide)
      by_cases q : j = k
      · subst q
        rw [hk, u_e, u_e]
        refine ⟨rfl, fun _ => stR_c (by omega) st (fun i m z hi hm hd => ?_) (fun z hz => by rw [w3, Int.zero_add]; exact m2 z hz.1 hz.2)⟩
        refine u_b (fun w => ?_)
        have := hA.1 i 0 hi (by decide) w
        subst this
        unfold st_D la_D at hd
        simp at hd
      · have nj : (j : Int) ≠ p := by omega
        have e2 : V3 (A 0) 2 (j : Int) = V (A 0) 2 (j : Int) := f1 _ 2 _ (fun w => inj_n hA (by decide) (by omega) (by omega) w.1) (fun w => inj_n hA (by decide) (by omega) (by omega) w.1) (fun t ht w => inj_n hA (by decide) (by omega) (by omega) w.1)
        rw [u_i nj, u_i nj, e2, m1 a 4 _ (fun w => absurd w.2 (by decide))]
        obtain ⟨i1, i2⟩ := h4 j hj
        refine ⟨i1, fun n0 => stR_c (by omega) (i2 n0) (fun i m z hi hm hd => F i m z hi hm ?_) (fun z hz => by rw [w3]; exact m3 _ (by omega))⟩
        unfold st_D la_D at hd
        unfold im_L
        simp only [Bool.or_eq_true, Bool.and_eq_true, beq_iff_eq, decide_eq_true_eq, bne_iff_ne, ne_eq] at hd
        simp only [Bool.or_eq_false_iff, Bool.and_eq_false_iff, beq_eq_false_iff_ne, decide_eq_false_iff_not, ne_eq]
        omega
    obtain ⟨V4, W4, r1, r2, r3⟩ := RR_good (t := 0) R (by decide)
    refine ⟨V4, W4, 0, ?_, ?_, r3⟩
    · unfold f_X11_image
      rw [if_neg (by omega), if_pos (by omega), bq, gi, bq, g0, dv_bn2 e1, bq, dv_bn2 r1]
    · unfold f_X12_image
      rw [bq2, q_lies]
      dsimp only
      rw [if_pos hp, if_pos (by decide)]
      exact m4 _ r2
theorem L_back (h : RR A a V W) (ng : NG V) : ∃ V' W' u, f_X11_back V (A 0) p = (V', u) ∧ f_X12_back W a p = (W', u) ∧ RR A a V' W' := by
  have hA := h.1
  obtain ⟨g0, g1, g10, -⟩ := RR_G h
  by_cases hp : 0 ≤ p ∧ p ≤ 1
  case neg =>
    obtain ⟨V2, W2, r1, r2, r3⟩ := RR_bad (k := -1) h (Or.inl ⟨rfl, rfl, rfl⟩)
    refine ⟨V2, W2, -1, ?_, ?_, r3⟩
    · unfold f_X11_back f_X11_back_9
      by_cases q : p < 0
      · rw [if_pos q, dv_bn2 r1]
      · rw [if_neg q, if_neg (by omega), dv_bn2 r1]
    · unfold f_X12_back
      rw [bq2, q_lies]
      dsimp only
      rw [if_neg hp, if_neg (fun w => w rfl), dv_bn2 r2]
  case pos =>
    obtain ⟨k, hk⟩ : ∃ k : Nat, (k : Int) = p := ⟨p.toNat, by omega⟩
    have k2 : k = 0 ∨ k = 1 := by omega
    have gi : V (A 0) 1 p = A (1 + (k + 1)) := by
      obtain ⟨-, q2, q3, -⟩ := h.2.1.1
      rcases k2 with rfl | rfl
      · rw [← hk]; exact q2
      · rw [← hk]; exact q3
    obtain ⟨i1, i2⟩ := h.2.2.2.1 k (by omega)
    rw [hk] at i1 i2
    by_cases e0 : V (A 0) 2 p = 0
    · obtain ⟨V2, W2, r1, r2, r3⟩ := RR_bad (k := -2) h (Or.inr (Or.inl ⟨rfl, rfl, rfl⟩))
      refine ⟨V2, W2, -2, ?_, ?_, r3⟩
      · unfold f_X11_back
        rw [if_neg (by omega), if_pos (by omega), bq, if_neg (fun w => w e0), dv_bn2 r1]
      · unfold f_X12_back
        rw [bq2, q_lies]
        dsimp only
        rw [if_pos hp, if_pos (by decide), bq, if_neg (fun w => w (by rw [← i1]; exact e0)), dv_bn2 r2]
    · obtain ⟨V3, e1, f1, st⟩ := c_stand hA h.2.1 ng (d := 0) (s := k + 1) (by decide) (by omega) (by omega) (i2 e0)
      have e1 : f_X8_copyFrom V (A 1) (A (1 + (k + 1))) = (V3, 0) := e1
      obtain ⟨W5, m1, m2, m4⟩ := m_bck (W := W) (a := a) (p := p)
      have F : cf A (fun i m => (i == 1 && (2 ≤ m && m ≤ 7)) || (i == 4 && m ≤ 10) || (20 ≤ i && i < 26) || (i == 15 && m == 4)) V (dv_u V3 (A 15) 4 0 0) := cf_t (cf_m (sd_cf hA f1 (by decide)) (fun i m hL => by
        simp only [Bool.or_eq_false_iff, Bool.and_eq_false_iff, beq_eq_false_iff_ne, decide_eq_false_iff_not, ne_eq] at hL ⊢
        omega)) (cf_u hA (by decide) (by simp))
      have GW : wf a (fun m => m == 2 || m == 33) W (dv_u W5 a 33 0 0) := wf_t (wf_b m1 rfl) (wf_u rfl)
      have R : RR A a (dv_u V3 (A 15) 4 0 0) (dv_u W5 a 33 0 0) := by
        obtain ⟨-, h2, h3, h4, h5, h6, h7, h8, h9, h10⟩ := id h
        refine ⟨hA, G_c h2 (cf_ag F rfl), stR_c (by decide) st (fun i m z hi hm hd => u_b (fun w => ?_)) (fun z hz => by rw [u_j (by decide), Int.zero_add]; exact m2 z hz.1 hz.2), imR_c h4 (cf_ag F rfl) (fun z => GW 3 z rfl) (fun z => GW 4 z rfl), tpR_c h5 (cf_ag F rfl) (fun z => GW 11 z rfl) (GW 13 0 rfl), ⟨by rw [u_e, u_e], by rw [u_e]; decide, fun v v0 v1 => absurd v1 (by rw [u_e]; omega)⟩, ppR_c h7 (cf_ag F rfl) (fun z => GW 54 z rfl) (GW 55 0 rfl), miR_c h8 (cf_ag F rfl) (GW 0 0 rfl) (fun z => GW 1 z rfl), taR_c h9 (cf_ag F rfl) (GW 14 0 rfl) (GW 6 0 rfl) (GW 47 0 rfl), rdR_c h10 (fun z => F 10 1 z (by decide) (by decide) rfl) (fun z _ => F 14 1 z (by decide) (by decide) rfl) (fun z => GW 7 z rfl) (fun z => GW 17 z rfl)⟩
        have := hA.1 i 15 hi (by decide) w
        subst this
        unfold st_D la_D at hd
        simp at hd
      obtain ⟨V4, W4, r1, r2, r3⟩ := RR_good (t := 0) R (by decide)
      have c10 : V3 (A 0) 10 0 = A 15 := by rw [f1 _ 10 0 (fun w => inj_n hA (by decide) (by decide) (by decide) w.1) (fun w => inj_n hA (by decide) (by decide) (by decide) w.1) (fun t ht w => inj_n hA (by decide) (by omega) (by omega) w.1), g10]
      have cl : f_X4_clear V3 (A 15) = (dv_u V3 (A 15) 4 0 0, 0) := by
        unfold f_X4_clear
        rw [bq]
      refine ⟨V4, W4, 0, ?_, ?_, r3⟩
      · unfold f_X11_back
        rw [if_neg (by omega), if_pos (by omega), bq, if_pos e0, bq, g0, bq, gi, dv_bn2 e1, bq, c10, dv_bn2 cl, dv_bn2 r1]
      · unfold f_X12_back
        rw [bq2, q_lies]
        dsimp only
        rw [if_pos hp, if_pos (by decide), bq, if_pos (by rw [← i1]; exact e0)]
        exact m4 _ r2
end QTP
section QTQ
variable {V V' V0 V1 V2 V3 W W' W1 W2 : dV} {a x y u n c p : Int} {A : Nat → Int}
theorem L_status (h : RR A a V W) : ∃ u, f_X11_status V (A 0) = (u, ()) ∧ f_X12_status W a = (u, ()) := ⟨W a 0 0, by unfold f_X11_status; rw [bq, h.2.2.2.2.2.2.2.1.2], by unfold f_X12_status; rw [bq]⟩
theorem L_fault (h : RR A a V W) : ∃ u, f_X11_fault V (A 0) = (u, ()) ∧ f_X12_fault W a = (u, ()) := ⟨W a 14 0, by unfold f_X11_fault; rw [bq, h.2.2.2.2.2.2.2.2.1.1], by unfold f_X12_fault; rw [bq]⟩
theorem L_fluff (h : RR A a V W) : ∃ u, f_X11_fluff V (A 0) = (u, ()) ∧ f_X12_fluff W a = (u, ()) := ⟨W a 6 0, by unfold f_X11_fluff; rw [bq, h.2.2.2.2.2.2.2.2.1.2.1], by unfold f_X12_fluff; rw [bq]⟩
theorem L_stopped (h : RR A a V W) : ∃ u, f_X11_stopped V (A 0) = (u, ()) ∧ f_X12_stopped W a = (u, ()) := ⟨W a 47 0, by unfold f_X11_stopped; rw [bq, h.2.2.2.2.2.2.2.2.1.2.2], by unfold f_X12_stopped; rw [bq]⟩
theorem L_drawn (h : RR A a V W) : ∃ u, f_X11_drawn V (A 0) p x = (u, ()) ∧ f_X12_drawn W a p x = (u, ()) := by
  have g3 : V (A 0) 3 0 = A 7 := h.2.1.1.2.2.2.1
  obtain ⟨k1, k2, k3⟩ := h.2.2.2.2.2.2.1
  unfold f_X11_drawn f_X12_drawn
  by_cases e : 0 ≤ p ∧ p < V (A 7) 7 0
  · obtain ⟨r2, r3, r4⟩ := k3 p e.1 (by omega)
    have hV : f_X1_has V (A 7) p = (1, ()) := by rw [q_has, if_pos e]
    have hW : f_X12_lies W p 0 (W a 55 0 - 1) = (1, ()) := by rw [q_lies, if_pos (by omega)]
    by_cases x2 : 0 ≤ x ∧ x ≤ 2
    · have hx : f_X12_lies W x 0 2 = (1, ()) := by rw [q_lies, if_pos x2]
      have hc : x = 0 ∨ x = 1 ∨ x = 2 := by omega
      rcases hc with rfl | rfl | rfl
      · refine ⟨W a 54 p, ?_, ?_⟩
        · rw [bq, g3, dv_bn2 hV, if_pos (by decide), if_pos rfl, bq, bq, r2]
        · rw [bq, bq, dv_bn2 hW, if_neg (by decide), dv_bn2 hx, if_pos (by decide), if_neg (fun w => w rfl), bq, bq, Int.zero_add]
      · refine ⟨W a 54 (9 + p), ?_, ?_⟩
        · rw [bq, g3, dv_bn2 hV, if_pos (by decide), if_neg (by decide), if_pos rfl, bq, bq, r3]
        · rw [bq, bq, dv_bn2 hW, if_neg (by decide), dv_bn2 hx, if_pos (by decide), if_pos (by decide), if_neg (fun w => w rfl), bq, bq]
      · refine ⟨W a 54 (18 + p), ?_, ?_⟩
        · rw [bq, g3, dv_bn2 hV, if_pos (by decide), if_neg (by decide), if_neg (by decide), if_pos rfl, bq, bq, r4]
        · rw [bq, bq, dv_bn2 hW, if_neg (by decide), dv_bn2 hx, if_pos (by decide), if_pos (by decide), if_pos (by decide), bq, bq]
    · have hx : f_X12_lies W x 0 2 = (0, ()) := by rw [q_lies, if_neg x2]
      refine ⟨-1, ?_, ?_⟩
      · rw [bq, g3, dv_bn2 hV, if_pos (show (1 : Int) ≠ 0 by decide), if_neg (show ¬ x = 0 by omega), if_neg (show ¬ x = 1 by omega), if_neg (show ¬ x = 2 by omega)]
      · rw [bq, bq, dv_bn2 hW, if_neg (show ¬ (1 : Int) = 0 by decide), dv_bn2 hx, if_neg (fun w => w rfl)]
  · have hV : f_X1_has V (A 7) p = (0, ()) := by rw [q_has, if_neg e]
    have hW : f_X12_lies W p 0 (W a 55 0 - 1) = (0, ()) := by rw [q_lies, if_neg (by omega)]
    refine ⟨-1, ?_, ?_⟩
    · rw [bq, g3, dv_bn2 hV, if_neg (fun w => w rfl)]
    · rw [bq, bq, dv_bn2 hW, if_pos rfl]
theorem L_count (h : RR A a V W) : ∃ u, f_X11_count V (A 0) p = (u, ()) ∧ f_X12_count W a p = (u, ()) := by
  obtain ⟨g0, g1, g10, g5, -⟩ := RR_G h
  obtain ⟨kk, e7, e8, e9, e10, e50, e51, e52, ec⟩ := RR_n h
  obtain ⟨-, -, ⟨⟨fe, -⟩, ⟨s1, -⟩, ⟨l1, -, l3, -⟩⟩, -, ⟨t1, -⟩, ⟨p1, -⟩, -, ⟨⟨m0, m1, m2, m3, m4⟩, -⟩, -⟩ := id h
  have s1 : V (A 1) 7 0 = W a 2 70 := by have := s1; rw [Int.zero_add] at this; exact this
  have l1 : V (A 1) 5 0 = W a 2 71 := by have := l1; rw [Int.zero_add] at this; exact this
  have l3 : V (A 1) 6 0 = W a 2 72 := by have := l3; rw [Int.zero_add] at this; exact this
  have fe : ef (V (A 4)) (kf (W a 2) 0) := fe
  unfold f_X11_count f_X12_count f_X12_termAt
  rw [bq, g0, bq, g1]
  by_cases q0 : p = 0
  · subst q0
    rw [if_pos rfl, if_pos rfl, bq, bq2, q_many]
    exact ⟨_, rfl, by rw [e7]⟩
  rw [if_neg q0, if_neg q0]
  by_cases q1 : p = 1
  · subst q1
    rw [if_pos rfl, if_pos rfl, bq2, bq2, q_laidCarpets kk.1.1.1 kk.1.1.2, q_laidMany2, ef_laid fe kk.1]
    exact ⟨_, rfl, rfl⟩
  rw [if_neg q1, if_neg q1]
  by_cases q2 : p = 2
  · subst q2
    have hk : kgf (kf (W a 2) 0) := kf_at (ef_9 fe) kk (by have := kk.2.2.2.2.2.1; omega)
    rw [if_pos rfl, if_pos rfl, bq2, bq2, q_rags kk.1, q_ragMany hk.1 (fun c c0 c1 => by
      have := (kk.2.2.1 c c0 (by omega)).2.2.2.1
      rw [(ec c c0 (by have := kk.1.1; omega)).2.2.1] at this
      exact this), ef_rag fe kk.1]
    exact ⟨_, rfl, rfl⟩
  rw [if_neg q2, if_neg q2]
  by_cases q3 : p = 3
  · subst q3
    rw [if_pos rfl, if_pos rfl, bq, bq]
    exact ⟨_, rfl, by rw [e10]⟩
  rw [if_neg q3, if_neg q3]
  by_cases q4 : p = 4
  · subst q4
    rw [if_pos rfl, if_pos rfl, bq, bq, bq]
    exact ⟨_, rfl, by rw [s1]⟩
  rw [if_neg q4, if_neg q4]
  by_cases q5 : p = 5
  · subst q5
    rw [if_pos rfl, if_pos rfl, bq, bq, bq]
    exact ⟨_, rfl, by rw [l1]⟩
  rw [if_neg q5, if_neg q5]
  by_cases q6 : p = 6
  · subst q6
    rw [if_pos rfl, if_pos rfl, bq, bq, bq, g10]
    exact ⟨_, rfl, by rw [p1]⟩
  rw [if_neg q6, if_neg q6]
  by_cases q7 : p = 7
  · subst q7
    rw [if_pos rfl, if_pos rfl, bq, bq, bq, g5]
    exact ⟨_, rfl, by rw [t1]⟩
  rw [if_neg q7, if_neg q7]
  by_cases q8 : p = 8
  · subst q8
    rw [if_pos rfl, if_pos rfl, bq, bq, bq, bq]
    exact ⟨_, rfl, by rw [show (8 : Int) - 7 = 1 from rfl, show (8 : Int) - 8 = 0 from rfl, m0]⟩
  rw [if_neg q8, if_neg q8]
  by_cases q9 : p = 9
  · subst q9
    rw [if_pos rfl, if_pos rfl, bq, bq, bq, bq]
    exact ⟨_, rfl, by rw [show (9 : Int) - 7 = 2 from rfl, show (9 : Int) - 8 = 1 from rfl, m1]⟩
  rw [if_neg q9, if_neg q9]
  by_cases q10 : p = 10
  · subst q10
    rw [if_pos rfl, if_pos rfl, bq, bq, bq, bq]
    exact ⟨_, rfl, by rw [show (10 : Int) - 7 = 3 from rfl, show (10 : Int) - 8 = 2 from rfl, m2]⟩
  rw [if_neg q10, if_neg q10]
  by_cases q11 : p = 11
  · subst q11
    rw [if_pos rfl, if_pos rfl, bq, bq, bq]
    exact ⟨_, rfl, by rw [show (11 : Int) - 8 = 3 from rfl, m3]⟩
  rw [if_neg q11, if_neg q11]
  by_cases q12 : p = 12
  · subst q12
    rw [if_pos rfl, if_pos rfl, bq, bq, bq]
    exact ⟨_, rfl, by rw [show (12 : Int) - 8 = 4 from rfl, m4]⟩
  rw [if_neg q12, if_neg q12]
  by_cases q13 : p = 13
  · subst q13
    rw [if_pos rfl, if_pos rfl, bq, bq, bq]
    exact ⟨_, rfl, by rw [l3]⟩
  rw [if_neg q13, if_neg q13]
  by_cases q14 : p = 14
  · subst q14
    refine ⟨W a 2 28, ?_, ?_⟩
    · rw [if_pos rfl, bq, bq, ← e50]; rfl
    · rw [if_pos rfl]; rfl
  rw [if_neg q14, if_neg q14]
  by_cases q15 : p = 15
  · subst q15
    refine ⟨W a 2 65, ?_, ?_⟩
    · rw [if_pos rfl, bq, bq, ← e51]; rfl
    · rw [if_pos rfl]; rfl
  rw [if_neg q15, if_neg q15]
  by_cases q16 : p = 16
  · subst q16
    refine ⟨W a 2 66, ?_, ?_⟩
    · rw [if_pos rfl, bq, bq, ← e52]; rfl
    · rw [if_pos rfl]; rfl
  rw [if_neg q16, if_neg q16]
  by_cases q17 : p = 17
  · subst q17
    rw [if_pos rfl, if_pos rfl, bq, bq]
    exact ⟨_, rfl, by rw [e8]⟩
  rw [if_neg q17, if_neg q17]
  by_cases q18 : p = 18
  · subst q18
    rw [if_pos rfl, if_pos rfl, bq, bq]
    exact ⟨_, rfl, by rw [e9]⟩
  rw [if_neg q18, if_neg q18]
  exact ⟨_, rfl, rfl⟩
theorem L_of (h : RR A a V W) : ∃ V' W' u, f_X11_of V (A 0) c x = (V', u) ∧ f_X12_of W a c x = (W', u) ∧ RR A a V' W' := by
  obtain ⟨g0, g1, g10, g5, g9, -⟩ := RR_G h
  obtain ⟨kk, e7, e8, e9, e10, e50, e51, e52, ec⟩ := RR_n h
  have n9 := kk.1.1
  unfold f_X11_of f_X12_of
  by_cases e : 0 ≤ c ∧ c < V (A 4) 7 0
  · obtain ⟨r0, r1, r2, r3, r4⟩ := ec c e.1 (by omega)
    have hV : f_X1_has V (A 4) c = (1, ()) := by rw [q_has, if_pos e]
    have hW : f_X12_isCarpet W a c = (1, ()) := by rw [q_isCarpet, if_pos (by omega)]
    rw [bq, g0, bq, g1, dv_bn2 hV, if_pos (show (1 : Int) ≠ 0 by decide), dv_bn2 hW, if_pos (show (1 : Int) ≠ 0 by decide)]
    by_cases x0 : x = 0
    · rw [if_pos x0, if_pos x0, bq, bq, bq]
      exact ⟨V, W, _, rfl, by rw [r0], h⟩
    rw [if_neg x0, if_neg x0]
    by_cases x1 : x = 1
    · rw [if_pos x1, if_pos x1, bq, bq, bq]
      exact ⟨V, W, _, rfl, by rw [r1], h⟩
    rw [if_neg x1, if_neg x1]
    by_cases x2 : x = 2
    · rw [if_pos x2, if_pos x2, bq, bq, bq]
      exact ⟨V, W, _, rfl, by rw [r2, Int.zero_add], h⟩
    rw [if_neg x2, if_neg x2]
    by_cases x3 : x = 3
    · rw [if_pos x3, if_pos x3, bq, bq, bq]
      exact ⟨V, W, _, rfl, by rw [r3], h⟩
    rw [if_neg x3, if_neg x3]
    by_cases x4 : x = 4
    · rw [if_pos x4, if_pos x4, bq, bq, bq]
      exact ⟨V, W, _, rfl, by rw [r4], h⟩
    rw [if_neg x4, if_neg x4]
    by_cases x5 : x = 5
    · rw [if_pos x5, if_pos x5]
      by_cases l3 : V (A 4) 3 c = -1
      · have lV : f_X1_isLaid V (A 4) c = (0, ()) := by rw [q_isLaid, if_neg (fun w => w.2.2 l3)]
        have lW : f_X12_isLaid W a c = (0, ()) := by rw [q_mLaid, if_pos (by rw [← r3]; exact l3)]
        rw [dv_bn2 lV, if_pos (show (0 : Int) = 0 from rfl), dv_bn2 lW, if_pos (show (0 : Int) = 0 from rfl)]
        exact ⟨V, W, _, rfl, rfl, h⟩
      · have lV : f_X1_isLaid V (A 4) c = (1, ()) := by rw [q_isLaid, if_pos ⟨e.1, e.2, l3⟩]
        have lW : f_X12_isLaid W a c = (1, ()) := by rw [q_mLaid, if_neg (by rw [← r3]; exact l3)]
        obtain ⟨lx, hlx, hjd⟩ := JX_jd (RR_JX h)
        obtain ⟨V', W', t, w1, w2, w3, w4, -⟩ := q_wear hjd e.1 e.2 l3
        rw [dv_bn2 lV, if_neg (show ¬ (1 : Int) = 0 by decide), dv_bn2 lW, if_neg (show ¬ (1 : Int) = 0 by decide), bq, bq, g9, dv_bn2 hlx, dv_bn2 w1, dv_bn2 w2]
        exact ⟨V', W', t, rfl, rfl, RR_j h w3 (jm_e w4)⟩
    rw [if_neg x5, if_neg x5]
    exact ⟨V, W, _, rfl, rfl, h⟩
  · have hV : f_X1_has V (A 4) c = (0, ()) := by rw [q_has, if_neg e]
    have hW : f_X12_isCarpet W a c = (0, ()) := by rw [q_isCarpet, if_neg (by omega)]
    rw [bq, g0, bq, g1, dv_bn2 hV, if_neg (show ¬ (0 : Int) ≠ 0 by decide), dv_bn2 hW, if_neg (show ¬ (0 : Int) ≠ 0 by decide)]
    exact ⟨V, W, _, rfl, rfl, h⟩
theorem L_asks (h : RR A a V W) : ∃ V' W' u, f_X11_asks V (A 0) c x y p = (V', u) ∧ f_X12_asks W a c x y p = (W', u) ∧ RR A a V' W' := by
  obtain ⟨g0, g1, g10, g5, g9, -⟩ := RR_G h
  obtain ⟨kk, e7, e8, e9, e10, e50, e51, e52, ec⟩ := RR_n h
  have n9 := kk.1.1
  unfold f_X11_asks f_X12_asks
  by_cases e : 0 ≤ c ∧ c < V (A 4) 7 0
  case neg =>
    have hV : f_X1_has V (A 4) c = (0, ()) := by rw [q_has, if_neg e]
    have hW : f_X12_isCarpet W a c = (0, ()) := by rw [q_isCarpet, if_neg (by omega)]
    rw [bq, g0, bq, g1, dv_bn2 hV, if_pos (show (0 : Int) = 0 from rfl), dv_bn2 hW, if_pos (show (0 : Int) = 0 from rfl)]
    exact ⟨V, W, _, rfl, rfl, h⟩
  have hV : f_X1_has V (A 4) c = (1, ()) := by rw [q_has, if_pos e]
  have hW : f_X12_isCarpet W a c = (1, ()) := by rw [q_isCarpet, if_pos (by omega)]
  rw [bq, g0, bq, g1, dv_bn2 hV, if_neg (show ¬ (1 : Int) = 0 by decide), dv_bn2 hW, if_neg (show ¬ (1 : Int) = 0 by decide)]
  by_cases hx : 0 ≤ x ∧ x ≤ 11
  case neg =>
    have gx : f_X11_onGrid V x = (0, ()) := by rw [c_onGrid, if_neg hx]
    have mx : f_X12_isAlong W x = (0, ()) := by rw [q_isAlong, if_neg hx]
    rw [dv_bn2 gx, if_pos (show (0 : Int) = 0 from rfl), dv_bn2 mx, if_pos (show (0 : Int) = 0 from rfl)]
    exact ⟨V, W, _, rfl, rfl, h⟩
  have gx : f_X11_onGrid V x = (1, ()) := by rw [c_onGrid, if_pos hx]
  have mx : f_X12_isAlong W x = (1, ()) := by rw [q_isAlong, if_pos hx]
  rw [dv_bn2 gx, if_neg (show ¬ (1 : Int) = 0 by decide), dv_bn2 mx, if_neg (show ¬ (1 : Int) = 0 by decide)]
  by_cases hy : 0 ≤ y ∧ y ≤ 11
  case neg =>
    have gy : f_X11_onGrid V y = (0, ()) := by rw [c_onGrid, if_neg hy]
    have my : f_X12_isAlong W y = (0, ()) := by rw [q_isAlong, if_neg hy]
    rw [dv_bn2 gy, if_neg (show ¬ (0 : Int) ≠ 0 by decide), dv_bn2 my, if_neg (show ¬ (0 : Int) ≠ 0 by decide)]
    exact ⟨V, W, _, rfl, rfl, h⟩
  have gy : f_X11_onGrid V y = (1, ()) := by rw [c_onGrid, if_pos hy]
  have my : f_X12_isAlong W y = (1, ()) := by rw [q_isAlong, if_pos hy]
  rw [dv_bn2 gy, if_pos (show (1 : Int) ≠ 0 by decide), dv_bn2 my, if_pos (show (1 : Int) ≠ 0 by decide)]
  obtain ⟨lx, hlx, hjd⟩ := JX_jd (RR_JX h)
  by_cases q0 : p = 0
  · obtain ⟨V', W', t, w1, w2, w3, w4, -⟩ := q_cost hjd e.1 e.2 hx hy
    rw [if_pos q0, if_pos q0, bq, bq, g9, dv_bn2 hlx, dv_bn2 w1, dv_bn2 w2]
    exact ⟨V', W', t, rfl, rfl, RR_j h w3 (jm_e w4)⟩
  rw [if_neg q0, if_neg q0]
  by_cases q1 : p = 1
  · obtain ⟨V', W', t, w1, w2, w3, w4, -⟩ := q_bar hjd e.1 e.2 hx hy
    rw [if_pos q1, if_pos q1, bq, bq, g9, dv_bn2 hlx, dv_bn2 w1, dv_bn2 w2]
    by_cases t0 : t = 0
    · rw [if_pos t0, if_pos t0]
      exact ⟨V', W', 0, rfl, rfl, RR_j h w3 (jm_e w4)⟩
    · rw [if_neg t0, if_neg t0]
      exact ⟨V', W', 1, rfl, rfl, RR_j h w3 (jm_e w4)⟩
  rw [if_neg q1, if_neg q1]
  by_cases q2 : p = 2
  · obtain ⟨V', W', t, w1, w2, w3, w4, -⟩ := q_can (RR_JX h) e.1 e.2 hx hy
    rw [if_pos q2, if_pos q2, dv_bn2 w1, dv_bn2 w2]
    by_cases t0 : t = 0
    · rw [if_pos t0, if_pos t0]
      exact ⟨V', W', 0, rfl, rfl, RR_j h w3 w4⟩
    · rw [if_neg t0, if_neg t0]
      exact ⟨V', W', 1, rfl, rfl, RR_j h w3 w4⟩
  rw [if_neg q2, if_neg q2]
  exact ⟨V, W, _, rfl, rfl, h⟩
end QTQ
section QTR
variable {V : dV} {p j k : Int}
theorem sm_32 : ∀ j : Fin 32, ((Int32.ofInt (j.1 : Int) &&& 31).toBitVec.smod 32).toNat = j.1 := by decide +kernel
theorem qb_shr (j0 : 0 ≤ j) (j1 : j < 32) : qb (dv_shr p j) 0 = qb p j.toNat := by
  unfold qb dv_shr
  have h := sm_32 ⟨j.toNat, by omega⟩
  simp only [show ((j.toNat : Nat) : Int) = j by omega] at h
  rw [Int32.ofInt_toInt, Int32.toBitVec_shiftRight]
  unfold BitVec.sshiftRight'
  rw [h, BitVec.getLsbD_sshiftRight]
  simp
  intro w
  omega
theorem qb_1 : ∀ i : Fin 32, qb 1 i.1 = decide (i.1 = 0) := by decide +kernel
theorem qb_m1 : ∀ i : Fin 32, qb (-1) i.1 = true := by decide +kernel
theorem qb_s1 : ∀ j : Fin 32, ∀ i : Fin 32, qb (dv_shl 1 (j.1 : Int)) i.1 = decide (i.1 = j.1) := by decide +kernel
theorem and_1 : dv_and p 1 = 1 ↔ qb p 0 = true := by
  constructor
  · intro h
    have h1 : qb (dv_and p 1) 0 = true := by rw [h]; exact qb_1 ⟨0, by decide⟩
    rw [qb_and] at h1
    cases hq : qb p 0 with
    | true => rfl
    | false => rw [hq] at h1; cases h1
  · intro h
    have h1 : (Int32.ofInt p &&& Int32.ofInt 1) = 1 := by
      apply Int32.toBitVec_inj.mp
      apply BitVec.eq_of_getLsbD_eq
      intro i hi
      have h3 : (Int32.ofInt p &&& Int32.ofInt 1).toBitVec.getLsbD i = (qb p i && qb 1 i) := by
        rw [Int32.toBitVec_and, BitVec.getLsbD_and]
        rfl
      have h4 : (1 : Int32).toBitVec.getLsbD i = qb 1 i := rfl
      rw [h3, h4, qb_1 ⟨i, hi⟩]
      by_cases e : i = 0
      · subst e; rw [h]; rfl
      · simp [e]
    unfold dv_and
    rw [h1]
    rfl
theorem q_isIn (j0 : 0 ≤ j) (j1 : j < 32) : f_X12_isIn V p j = (if qb p j.toNat then 1 else 0, ()) := by
  unfold f_X12_isIn
  rw [bq, bq]
  have h : dv_and (dv_shr p j) 1 = 1 ↔ qb p j.toNat = true := by rw [and_1, qb_shr j0 j1]
  by_cases e : qb p j.toNat = true
  · rw [if_neg (fun w => w (h.mpr e)), if_pos e]
  · rw [if_pos (fun w => e (h.mp w)), if_neg e]
/-- how many of the nine -/
def cnt (p : Int) : Nat := (if qb p 0 then 1 else 0) + (if qb p 1 then 1 else 0) + (if qb p 2 then 1 else 0) + (if qb p 3 then 1 else 0) + (if qb p 4 then 1 else 0) + (if qb p 5 then 1 else 0) + (if qb p 6 then 1 else 0) + (if qb p 7 then 1 else 0) + (if qb p 8 then 1 else 0)
theorem cnt_9 : cnt p ≤ 9 := by
  unfold cnt
  have h : ∀ b : Bool, (if b = true then 1 else 0) ≤ 1 := by intro b; cases b <;> decide
  have h0 := h (qb p 0)
  have h1 := h (qb p 1)
  have h2 := h (qb p 2)
  have h3 := h (qb p 3)
  have h4 := h (qb p 4)
  have h5 := h (qb p 5)
  have h6 := h (qb p 6)
  have h7 := h (qb p 7)
  have h8 := h (qb p 8)
  omega
theorem qb_off (j0 : 0 ≤ j) (j1 : j < 9) {i : Nat} (hi : i < 9) : qb (dv_and p (dv_xor (dv_shl 1 j) (-1))) i = (qb p i && !decide (i = j.toNat)) := by
  have h1 := qb_s1 ⟨j.toNat, by omega⟩ ⟨i, by omega⟩
  simp only [show ((j.toNat : Nat) : Int) = j by omega] at h1
  have h2 := qb_m1 ⟨i, by omega⟩
  simp only at h2
  rw [qb_and, qb_xor, h1, h2]
  simp
theorem cnt_off (j0 : 0 ≤ j) (j1 : j < 9) (h : qb p j.toNat = true) : cnt (dv_and p (dv_xor (dv_shl 1 j) (-1))) < cnt p := by
  obtain ⟨n, hn⟩ : ∃ n : Nat, n = j.toNat := ⟨_, rfl⟩
  have h9 : n < 9 := by omega
  unfold cnt
  rw [qb_off j0 j1 (by decide : 0 < 9), qb_off j0 j1 (by decide : 1 < 9), qb_off j0 j1 (by decide : 2 < 9), qb_off j0 j1 (by decide : 3 < 9), qb_off j0 j1 (by decide : 4 < 9), qb_off j0 j1 (by decide : 5 < 9), qb_off j0 j1 (by decide : 6 < 9), qb_off j0 j1 (by decide : 7 < 9), qb_off j0 j1 (by decide : 8 < 9)]
  rw [← hn] at h ⊢
  have hc : n = 0 ∨ n = 1 ∨ n = 2 ∨ n = 3 ∨ n = 4 ∨ n = 5 ∨ n = 6 ∨ n = 7 ∨ n = 8 := by omega
  rcases hc with rfl | rfl | rfl | rfl | rfl | rfl | rfl | rfl | rfl <;> simp [h] <;> omega
end QTR
end
section
section QTS
variable {V V' U U' W W' W0 W1 W2 : dV} {a x y c p q k : Int} {A : Nat → Int} {i : Nat}
/-- what the reference's search changes -/
def sf_fr (a : Int) (W W' : dV) : Prop := ∀ b m z, ¬ (b = a ∧ ((22 ≤ m ∧ m ≤ 26) ∨ (29 ≤ m ∧ m ≤ 30) ∨ (34 ≤ m ∧ m ≤ 45))) → W' b m z = W b m z
theorem sf_r : sf_fr a W W := fun _ _ _ _ => rfl
theorem sf_t (h : sf_fr a W W') (k : sf_fr a W' W1) : sf_fr a W W1 := fun b m z q => (k b m z q).trans (h b m z q)
theorem sf_u {m : Nat} {z : Int} (hm : (22 ≤ m ∧ m ≤ 26) ∨ (29 ≤ m ∧ m ≤ 30) ∨ (34 ≤ m ∧ m ≤ 45)) : sf_fr a W (dv_u W a m z y) := fun b m' z' q => by
  unfold dv_u; rw [if_neg (fun e => q ⟨e.1, by omega⟩)]
theorem sf_te (h : te_fr a W W') : sf_fr a W W' := fun b m z q => h b m z (fun w => q ⟨w.1, Or.inl w.2⟩)
theorem sf_29 (h : ∀ b m z, ¬ (b = a ∧ m = 29) → W' b m z = W b m z) : sf_fr a W W' := fun b m z q => h b m z (fun w => q ⟨w.1, by omega⟩)
theorem sf_m (h : ∀ b m z, ¬ (b = a ∧ (34 ≤ m ∧ m ≤ 45)) → W' b m z = W b m z) : sf_fr a W W' := fun b m z q => h b m z (fun w => q ⟨w.1, by omega⟩)
theorem sf_2 (h : sf_fr a W W') (z : Int) : W' a 2 z = W a 2 z := h a 2 z (fun q => absurd q.2 (by omega))
theorem JX_s (h : JX A a i V W) (f : sf_fr a W W') : JX A a i V W' := by
  obtain ⟨hA, hG, hl, hr, hf, hi⟩ := h
  have w2 := sf_2 f
  have r : ∀ m z, V m z = V m z := fun _ _ => rfl
  refine ⟨hA, hG, ?_, ⟨fun z => by rw [f a 17 z (fun q => absurd q.2 (by omega))]; exact hr.1 z, fun z z0 z1 => by rw [f a 7 z (fun q => absurd q.2 (by omega))]; exact hr.2.1 z z0 z1, hr.2.2⟩, ?_, by rw [w2]; exact hi⟩
  · rw [show W' a 2 = W a 2 from funext w2]; exact hl
  · rw [show W' a 2 = W a 2 from funext w2]; exact hf
theorem s_bar (h : JX A a 4 V U) (c0 : 0 ≤ c) (c1 : c < U a 2 69) (hx : 0 ≤ x ∧ x ≤ 11) (hy : 0 ≤ y ∧ y ≤ 11) : ∃ (U' : dV) (r : Int), f_X12_isBarred U a c x y = (U', r) ∧ sf_fr a U U' := by
  obtain ⟨lx, -, hjd⟩ := JX_jd h
  have e7 := (ef9_n h.2.2.2.2.1.1).1
  obtain ⟨V', W', t, -, w2, -, w4, -⟩ := q_bar hjd c0 (by rw [e7]; exact c1) hx hy
  exact ⟨W', t, w2, sf_te w4⟩
theorem s_cost (h : JX A a 4 V U) (c0 : 0 ≤ c) (c1 : c < U a 2 69) (hx : 0 ≤ x ∧ x ≤ 11) (hy : 0 ≤ y ∧ y ≤ 11) : ∃ (U' : dV) (r : Int), f_X12_costsAt U a c x y = (U', r) ∧ sf_fr a U U' := by
  obtain ⟨lx, -, hjd⟩ := JX_jd h
  have e7 := (ef9_n h.2.2.2.2.1.1).1
  obtain ⟨V', W', t, -, w2, -, w4, -⟩ := q_cost hjd c0 (by rw [e7]; exact c1) hx hy
  exact ⟨W', t, w2, sf_te w4⟩
theorem s_row (h : JX A a 4 V W) (c0 : 0 ≤ c) (c1 : c < W a 2 69) : ∃ U' : dV, dv_lp f_X12_laysPrices_12b (W, a, p, c, 0) = Sum.inl (U', a, p, c + 1) ∧ sf_fr a W U' := by
  refine dv_inv (b := f_X12_laysPrices_12b) (P := fun s => ∃ (U : dV) (j : Int), s = (U, a, p, c, j) ∧ 0 ≤ j ∧ sf_fr a W U) (Q := fun q => ∃ U' : dV, q = Sum.inl (U', a, p, c + 1) ∧ sf_fr a W U') (m := fun s => (144 - s.2.2.2.2).toNat) ?_ _ ⟨W, 0, rfl, by decide, sf_r⟩
  rintro q ⟨U, j, rfl, j0, hU⟩
  have hJ := JX_s h hU
  have e82 : f_X12_laysPrices_82 U a p c = Sum.inr (Sum.inl (U, a, p, c + 1)) := by
    unfold f_X12_laysPrices_82
    rw [bq]
  rw [f_X12_laysPrices_12e]
  unfold f_X12_laysPrices_12c
  by_cases e : 144 ≤ j
  · rw [if_pos e, e82]
    exact Or.inr ⟨_, rfl, U, rfl, hU⟩
  · rw [if_neg e, bq2]
    by_cases e1 : (f_X12_isIn U p c).1 = 0
    · rw [if_pos e1, e82]
      exact Or.inr ⟨_, rfl, U, rfl, hU⟩
    · obtain ⟨U1, r, b1, b2⟩ := s_bar hJ c0 (by rw [sf_2 hU]; exact c1) (x := j % 12) (y := j / 12) (by omega) (by omega)
      rw [if_neg e1, bq, bq, bq, bq, dv_bn2 b1]
      have hU1 := sf_t hU b2
      by_cases e2 : r = 0
      · obtain ⟨U2, r2, d1, d2⟩ := s_cost (JX_s h hU1) c0 (by rw [sf_2 hU1]; exact c1) (x := j % 12) (y := j / 12) (by omega) (by omega)
        rw [if_pos e2, dv_bn2 d1, bq, bq]
        exact Or.inl ⟨_, rfl, ⟨_, j + 1, rfl, by omega, sf_t (sf_t hU1 d2) (sf_u (by decide))⟩, by dsimp only; omega⟩
      · rw [if_neg e2, bq, bq]
        exact Or.inl ⟨_, rfl, ⟨_, j + 1, rfl, by omega, sf_t hU1 (sf_u (by decide))⟩, by dsimp only; omega⟩
theorem s_prices (h : JX A a 4 V W) : ∃ U' : dV, f_X12_laysPrices W a p = (U', 0) ∧ sf_fr a W U' := by
  unfold f_X12_laysPrices
  refine dv_inv (b := f_X12_laysPrices_2b) (P := fun s => ∃ (U : dV) (j : Int), s = (U, a, p, j) ∧ 0 ≤ j ∧ sf_fr a W U) (Q := fun q => ∃ U' : dV, q = (U', 0) ∧ sf_fr a W U') (m := fun s => (W a 2 69 - s.2.2.2).toNat) ?_ _ ⟨W, 0, rfl, by decide, sf_r⟩
  rintro q ⟨U, j, rfl, j0, hU⟩
  rw [f_X12_laysPrices_2e]
  unfold f_X12_laysPrices_2c
  rw [dv_bn2 q_many, sf_2 hU]
  by_cases e : W a 2 69 ≤ j
  · rw [if_pos e]
    exact Or.inr ⟨_, rfl, U, rfl, hU⟩
  · obtain ⟨U1, r1, r2⟩ := s_row (p := p) (JX_s h hU) j0 (by rw [sf_2 hU]; omega)
    rw [if_neg e, r1]
    exact Or.inl ⟨_, rfl, ⟨U1, j + 1, rfl, by omega, sf_t hU r2⟩, by dsimp only; omega⟩
theorem s_cover (h : JX A a 4 V W) : ∃ U' : dV, f_X12_laysCovered W a = (U', 0) ∧ sf_fr a W U' := by
  obtain ⟨-, -, -, -, ⟨hf, hk⟩, hi⟩ := h
  have hK := kf_at hf hk hi.2
  have hKb := hK.1
  obtain ⟨U, c1, c2, -⟩ := q_covered (V := W) (a := a) hKb (fun d d0 d1 hd => by
    have h1 := hK.2.2.2.1 d d0 (by simp only [kf, Int.zero_add]; exact d1) (by simp only [kf, Int.zero_add]; exact hd)
    have h2 := hKb.2.1.2
    have h3 := hKb.2.2.1.2
    simp only [kf, Int.zero_add] at h1 h2 h3
    omega) hK.2.1
  exact ⟨U, c1, sf_29 c2⟩
/-- a filling is noted -/
theorem s_25 : ∃ U' : dV, dv_lp f_X12_countsRow_25b (W, x, a, p, q, 0) = Sum.inl (U', a, p, q + 1) ∧ sf_fr a W U' := by
  refine dv_inv (b := f_X12_countsRow_25b) (P := fun s => ∃ (U : dV) (j : Int), s = (U, x, a, p, q, j) ∧ sf_fr a W U) (Q := fun r => ∃ U' : dV, r = Sum.inl (U', a, p, q + 1) ∧ sf_fr a W U') (m := fun s => (x * x - s.2.2.2.2.2).toNat) ?_ _ ⟨W, 0, rfl, sf_r⟩
  rintro s ⟨U, j, rfl, hU⟩
  rw [f_X12_countsRow_25e]
  unfold f_X12_countsRow_25c
  rw [bq]
  by_cases e : x * x ≤ j
  · rw [if_pos e, bq]
    exact Or.inr ⟨_, rfl, U, rfl, hU⟩
  · rw [if_neg e, bq, bq, bq, bq, bq, bq, bq, bq, bq, bq, bq, bq, bq]
    exact Or.inl ⟨_, rfl, ⟨_, j + 1, rfl, sf_t hU (sf_u (by decide))⟩, by dsimp only; omega⟩
theorem s_counts : ∃ U' : dV, f_X12_countsRow W a p = (U', 0) ∧ sf_fr a W U' := by
  unfold f_X12_countsRow
  refine dv_inv (b := f_X12_countsRow_2b) (P := fun s => ∃ (U : dV) (j : Int), s = (U, a, p, j) ∧ sf_fr a W U) (Q := fun r => ∃ U' : dV, r = (U', 0) ∧ sf_fr a W U') (m := fun s => (p - s.2.2.2).toNat) ?_ _ ⟨W, 0, rfl, sf_r⟩
  rintro s ⟨U, j, rfl, hU⟩
  rw [f_X12_countsRow_2e]
  unfold f_X12_countsRow_2c
  by_cases e : p ≤ j
  · rw [if_pos e]
    exact Or.inr ⟨_, rfl, U, rfl, hU⟩
  · obtain ⟨U1, r1, r2⟩ := s_25 (W := U) (a := a) (p := p) (q := j) (x := U a 2 (29 + U a 35 j))
    rw [if_neg e, bq, bq, bq, r1]
    exact Or.inl ⟨_, rfl, ⟨U1, j + 1, rfl, sf_t hU r2⟩, by dsimp only; omega⟩
theorem s_50 : ∃ U' : dV, f_X12_fills_50 W a p = (U', 0) ∧ sf_fr a W U' := by
  unfold f_X12_fills_50
  rw [bq]
  by_cases e : W a 41 0 ≤ 1
  · rw [if_pos e, bq]
    have h0 : sf_fr a W (dv_u W a 42 0 p) := sf_u (by decide)
    refine dv_inv (b := f_X12_fills_66b) (P := fun s => ∃ (U : dV) (j : Int), s = (U, a, p, j) ∧ sf_fr a W U) (Q := fun r => ∃ U' : dV, r = (U', 0) ∧ sf_fr a W U') (m := fun s => (p - s.2.2.2).toNat) ?_ _ ⟨_, 0, rfl, h0⟩
    rintro s ⟨U, j, rfl, hU⟩
    rw [f_X12_fills_66e]
    unfold f_X12_fills_66c
    by_cases e : p ≤ j
    · rw [if_pos e]
      exact Or.inr ⟨_, rfl, U, rfl, hU⟩
    · rw [if_neg e, bq, bq, bq]
      exact Or.inl ⟨_, rfl, ⟨_, j + 1, rfl, sf_t hU (sf_u (by decide))⟩, by dsimp only; omega⟩
  · rw [if_neg e]
    exact ⟨W, rfl, sf_r⟩
theorem s_16 : ∃ U' : dV, f_X12_fills_16 W a p q = (U', 0) ∧ sf_fr a W U' := by
  unfold f_X12_fills_16
  rw [bq, bq, bq, bq, dv_bn2 q_lesser, bq, bq]
  have h1 : sf_fr a W (dv_u (dv_u W a 41 0 (dv_add (W a 41 0) 1)) a 43 0 (min (dv_u W a 41 0 (dv_add (W a 41 0) 1) a 43 0) q)) := sf_t (sf_u (by decide)) (sf_u (by decide))
  generalize dv_u (dv_u W a 41 0 (dv_add (W a 41 0) 1)) a 43 0 (min (dv_u W a 41 0 (dv_add (W a 41 0) 1) a 43 0) q) = U at h1
  by_cases e : U a 44 0 = 0
  · obtain ⟨U1, r1, r2⟩ := s_50 (W := U) (a := a) (p := p)
    rw [if_pos e, r1]
    exact ⟨U1, rfl, sf_t h1 r2⟩
  · obtain ⟨U1, r1, r2⟩ := s_counts (W := U) (a := a) (p := p)
    obtain ⟨U2, r3, r4⟩ := s_50 (W := U1) (a := a) (p := p)
    rw [if_neg e, dv_bn2 r1, r3]
    exact ⟨U2, rfl, sf_t (sf_t h1 r2) r4⟩
theorem s_fills : ∃ U' : dV, f_X12_fills W a p q = (U', 0) ∧ sf_fr a W U' := by
  unfold f_X12_fills
  obtain ⟨U1, r1, r2⟩ := s_16 (W := W) (a := a) (p := p) (q := q)
  rw [bq, bq2]
  by_cases e : W a 44 0 = 0
  · rw [if_pos e]; exact ⟨U1, r1, r2⟩
  · rw [if_neg e]
    by_cases e1 : (f_X12_isSeenSo W a p).1 ≠ 0
    · rw [if_pos e1]; exact ⟨U1, r1, r2⟩
    · rw [if_neg e1]; exact ⟨W, rfl, sf_r⟩
/-- the sides are no less than 0 -/
def sd0 (a : Int) (W : dV) : Prop := W a 2 69 ≤ 9 ∧ ∀ c, 0 ≤ c → c < W a 2 69 → 0 ≤ W a 2 (29 + c)
theorem sd0_c (h : sd0 a W) (f : sf_fr a W W') : sd0 a W' := ⟨by rw [sf_2 f]; exact h.1, fun c c0 c1 => by rw [sf_2 f] at c1 ⊢; exact h.2 c c0 c1⟩
theorem s_goesB {d : Nat} {rc : dV → Int → Int → Int → Int → dR} (hrc : ∀ (W : dV) (p q k : Int), sd0 a W → cnt p < d → ∃ U' : dV, rc W a p q k = (U', 0) ∧ sf_fr a W U') (h : sd0 a W) (hc : cnt p ≤ d) : ∃ U' : dV, f_X12_goesOn_B d rc W a p q k = (U', 0) ∧ sf_fr a W U' := by
  have L : ∀ x6 x5 x4 : Int, ∃ U' : dV, dv_lp (f_X12_goesOn_59b d rc) (W, x6, x5, x4, a, p, q, k, 0) = (U', 0) ∧ sf_fr a W U' := by
    intro x6 x5 x4
    refine dv_inv (b := f_X12_goesOn_59b d rc) (P := fun s => ∃ (U : dV) (j : Int), s = (U, x6, x5, x4, a, p, q, k, j) ∧ 0 ≤ j ∧ sf_fr a W U) (Q := fun r => ∃ U' : dV, r = (U', 0) ∧ sf_fr a W U') (m := fun s => (9 - s.2.2.2.2.2.2.2.2).toNat) ?_ _ ⟨W, 0, rfl, by decide, sf_r⟩
    rintro s ⟨U, j, rfl, j0, hU⟩
    have hd := sd0_c h hU
    rw [f_X12_goesOn_59e]
    unfold f_X12_goesOn_59c
    rw [dv_bn2 q_many]
    by_cases e : U a 2 69 ≤ j
    · rw [if_pos e]
      exact Or.inr ⟨_, rfl, U, rfl, hU⟩
    · have j9 : j < 9 := by have := hd.1; omega
      have NXT : (Sum.inl (U, x6, x5, x4, a, p, q, k, j + 1) : Sum (dV × Int × Int × Int × Int × Int × Int × Int × Int) dR) = Sum.inl (U, x6, x5, x4, a, p, q, k, j + 1) := rfl
      rw [if_neg e, dv_bn2 (q_isIn j0 (by omega))]
      by_cases e1 : qb p j.toNat = true
      · rw [if_pos e1, if_neg (show ¬ (1 : Int) = 0 by decide), bq2]
        by_cases e2 : (f_X12_priceAt U a j x4).1 = -1
        · rw [if_pos e2, bq]
          exact Or.inl ⟨_, rfl, ⟨U, j + 1, rfl, by omega, hU⟩, by dsimp only; omega⟩
        · rw [if_neg e2, bq, bq, bq, bq, bq2]
          by_cases e3 : (f_X12_isFree U a (U a 2 (29 + j)) x5 x6 (U a 39 0) (U a 40 0)).1 ≠ 0
          · have s0 : 0 ≤ U a 2 (29 + j) := hd.2 j j0 (by omega)
            obtain ⟨U1, t1, t2, -⟩ := q_turns (V := U) (a := a) (s := U a 2 (29 + j)) (x := x5) (y := x6) s0
            have F1 := sf_t (sf_t (sf_29 t2) (sf_u (W := U1) (a := a) (m := 35) (z := q) (y := j) (by decide))) (sf_u (m := 36) (z := q) (y := x4) (by decide))
            obtain ⟨U2, g1, g2⟩ := hrc (dv_u (dv_u U1 a 35 q j) a 36 q x4) (dv_and p (dv_xor (dv_shl 1 j) (-1))) (q + 1) (dv_add k (f_X12_priceAt (dv_u (dv_u U1 a 35 q j) a 36 q x4) a j x4).1) (sd0_c hd F1) (by have := cnt_off j0 j9 e1; omega)
            have F2 := sf_t F1 g2
            have s2 : 0 ≤ U2 a 2 (29 + j) := by rw [sf_2 F2]; exact s0
            obtain ⟨U3, t3, t4, -⟩ := q_turns (V := U2) (a := a) (s := U2 a 2 (29 + j)) (x := x5) (y := x6) s2
            rw [if_pos e3, bq, bq, dv_bn2 t1, bq, bq, bq, bq, bq, bq, bq2, bq, dv_bn2 g1, bq, bq, dv_bn2 t3, bq]
            exact Or.inl ⟨_, rfl, ⟨U3, j + 1, rfl, by omega, sf_t hU (sf_t F2 (sf_29 t4))⟩, by dsimp only; omega⟩
          · rw [if_neg e3, bq]
            exact Or.inl ⟨_, rfl, ⟨U, j + 1, rfl, by omega, hU⟩, by dsimp only; omega⟩
      · rw [if_neg e1, if_pos rfl, bq]
        exact Or.inl ⟨_, rfl, ⟨U, j + 1, rfl, by omega, hU⟩, by dsimp only; omega⟩
  have K : ∃ U' : dV, f_X12_goesOn_15 d rc W a p q k = (U', 0) ∧ sf_fr a W U' := by
    unfold f_X12_goesOn_15
    rw [bq, bq, bq2]
    by_cases e : (f_X12_firstBare W a (W a 39 0) (W a 40 0)).1 ≠ -1
    · rw [if_pos e, bq, bq]
      exact L _ _ _
    · obtain ⟨U1, r1, r2⟩ := s_fills (W := W) (a := a) (p := q) (q := k)
      rw [if_neg e, dv_bn2 r1]
      exact ⟨U1, rfl, r2⟩
  unfold f_X12_goesOn_B
  rw [bq]
  by_cases e : W a 45 0 = 0
  · rw [if_pos e]; exact K
  · rw [if_neg e, bq]
    by_cases e1 : W a 41 0 ≤ 0
    · rw [if_pos e1]; exact K
    · rw [if_neg e1]; exact ⟨W, rfl, sf_r⟩
theorem s_goes : ∀ (d : Nat) (W : dV) (p q k : Int), sd0 a W → cnt p ≤ d → ∃ U' : dV, f_X12_goesOn d W a p q k = (U', 0) ∧ sf_fr a W U' := by
  intro d
  induction d with
  | zero =>
    intro W p q k h hc
    exact s_goesB (rc := fun _ _ _ _ _ => dv_z) (fun W p q k _ hl => absurd hl (by omega)) h hc
  | succ d ih =>
    intro W p q k h hc
    exact s_goesB (rc := f_X12_goesOn d) (fun W p q k hs hl => ih W p q k hs (by omega)) h hc
theorem s_through {w h : Int} (hs : sd0 a W) : ∃ U' : dV, f_X12_goesThrough W a p w h = (U', 0) ∧ sf_fr a W U' := by
  unfold f_X12_goesThrough
  rw [bq, bq, bq, bq, bq]
  have h1 : sf_fr a W (dv_u (dv_u (dv_u (dv_u (dv_u W a 39 0 w) a 40 0 h) a 41 0 0) a 42 0 0) a 43 0 1000000) := sf_t (sf_t (sf_t (sf_t (sf_u (by decide)) (sf_u (by decide))) (sf_u (by decide))) (sf_u (by decide))) (sf_u (by decide))
  obtain ⟨U, r1, r2⟩ := s_goes 9 _ p 0 0 (sd0_c hs h1) cnt_9
  rw [dv_bn2 r1]
  exact ⟨U, rfl, sf_t h1 r2⟩
theorem JX_sd (h : JX A a 4 V W) : sd0 a W := by
  obtain ⟨-, -, -, -, ⟨hf, hk⟩, -⟩ := h
  obtain ⟨e7, -, -, -, -, -, ec⟩ := ef9_n hf
  have n9 := hk.1.1
  refine ⟨by omega, fun c c0 c1 => ?_⟩
  rw [← (ec c c0 (by omega)).1]
  exact (hk.1.2.2.2 c c0 (by omega)).1.1
theorem s_now (h : JX A a 4 V W) : ∃ U' : dV, f_X12_fillsNow W a p = (U', 0) ∧ sf_fr a W U' := by
  obtain ⟨U1, a1, b1⟩ := s_prices (p := (f_X12_rolledWhole W a).1) h
  obtain ⟨U2, a2, b2⟩ := s_cover (JX_s h b1)
  have F2 := sf_t b1 b2
  have F4 : sf_fr a W (dv_u (dv_u U2 a 44 0 p) a 45 0 0) := sf_t F2 (sf_t (sf_u (by decide)) (sf_u (by decide)))
  obtain ⟨U3, a3, b3⟩ := s_through (p := (f_X12_rolledWhole W a).1) (w := dv_u (dv_u U2 a 44 0 p) a 45 0 0 a 2 67) (h := dv_u (dv_u U2 a 44 0 p) a 45 0 0 a 2 68) (sd0_c (JX_sd h) F4)
  unfold f_X12_fillsNow
  rw [bq2, dv_bn2 a1, dv_bn2 a2, bq, bq, bq, bq, dv_bn2 a3]
  exact ⟨U3, rfl, sf_t F4 b3⟩
end QTS
section QTT
variable {V V' U U' W W' W0 W1 W2 : dV} {a x y c p q k : Int} {A : Nat → Int} {i : Nat}
theorem F_fill (h : JX A a 4 V W) : ∃ (W' : dV) (u : Int), f_X12_fill W a p = (W', u) ∧ sf_fr a W W' := by
  unfold f_X12_fill
  by_cases e : -1 ≤ p
  · obtain ⟨U, r1, r2⟩ := s_now (p := 0) h
    rw [if_pos e, dv_bn2 r1, bq]
    by_cases e1 : U a 41 0 ≠ 0
    · rw [if_pos e1]
      by_cases e2 : p ≠ -1
      · rw [if_pos e2, bq]
        by_cases e3 : U a 42 0 ≤ p
        · rw [if_pos e3]; exact ⟨U, _, rfl, r2⟩
        · rw [if_neg e3, bq]; exact ⟨U, _, rfl, r2⟩
      · rw [if_neg e2, bq]; exact ⟨U, _, rfl, r2⟩
    · rw [if_neg e1]; exact ⟨U, _, rfl, r2⟩
  · rw [if_neg e]; exact ⟨W, _, rfl, sf_r⟩
theorem F_ways (h : JX A a 4 V W) : ∃ (W' : dV) (u : Int), f_X12_ways W a = (W', u) ∧ sf_fr a W W' := by
  obtain ⟨U, r1, r2⟩ := s_now (p := 0) h
  unfold f_X12_ways
  rw [dv_bn2 r1, bq]
  exact ⟨U, _, rfl, r2⟩
theorem F_cheapest (h : JX A a 4 V W) : ∃ (W' : dV) (u : Int), f_X12_cheapest W a = (W', u) ∧ sf_fr a W W' := by
  obtain ⟨U, r1, r2⟩ := s_now (p := 0) h
  unfold f_X12_cheapest
  rw [dv_bn2 r1, bq]
  by_cases e : U a 41 0 ≠ 0
  · rw [if_pos e, bq]; exact ⟨U, _, rfl, r2⟩
  · rw [if_neg e]; exact ⟨U, _, rfl, r2⟩
theorem s_can {w g : Int} (hs : sd0 a W) : ∃ (U' : dV) (u : Int), f_X12_canFill W a p w g = (U', u) ∧ sf_fr a W U' := by
  unfold f_X12_canFill
  refine dv_inv (b := f_X12_canFill_3b) (P := fun s => ∃ (U : dV) (j : Int), s = (U, a, p, w, g, j) ∧ sf_fr a W U) (Q := fun r => ∃ (U' : dV) (u : Int), r = (U', u) ∧ sf_fr a W U') (m := fun s => (12 - s.2.2.2.2.2).toNat) ?_ _ ⟨W, 0, rfl, sf_r⟩
  rintro s ⟨U, j, rfl, hU⟩
  rw [f_X12_canFill_3e]
  unfold f_X12_canFill_3c
  by_cases e : 12 ≤ j
  · obtain ⟨U1, r1, r2⟩ := s_through (p := p) (w := w) (h := g) (sd0_c hs hU)
    rw [if_pos e, dv_bn2 r1, bq]
    by_cases e1 : U1 a 41 0 ≤ 0
    · rw [if_pos e1]; exact Or.inr ⟨_, rfl, U1, _, rfl, sf_t hU r2⟩
    · rw [if_neg e1]; exact Or.inr ⟨_, rfl, U1, _, rfl, sf_t hU r2⟩
  · rw [if_neg e, bq, bq]
    exact Or.inl ⟨_, rfl, ⟨_, j + 1, rfl, sf_t hU (sf_u (by decide))⟩, by dsimp only; omega⟩
theorem F_floors0 (h : JX A a 4 V W) : ∃ W' : dV, f_X12_laysFloors W a = (W', 0) ∧ sf_fr a W W' := by
  unfold f_X12_laysFloors
  refine dv_inv (b := f_X12_laysFloors_2b) (P := fun s => ∃ (U : dV) (j : Int), s = (U, a, j) ∧ sf_fr a W U) (Q := fun r => ∃ U' : dV, r = (U', 0) ∧ sf_fr a W U') (m := fun s => (1296 - s.2.2).toNat) ?_ _ ⟨W, 0, rfl, sf_r⟩
  rintro s ⟨U, j, rfl, hU⟩
  rw [f_X12_laysFloors_2e]
  unfold f_X12_laysFloors_2c
  by_cases e : 1296 ≤ j
  · obtain ⟨U1, r1, r2⟩ := s_now (p := 1) (JX_s h hU)
    rw [if_pos e, dv_bn2 r1]
    exact Or.inr ⟨_, rfl, U1, rfl, sf_t hU r2⟩
  · rw [if_neg e, bq, bq]
    exact Or.inl ⟨_, rfl, ⟨_, j + 1, rfl, sf_t hU (sf_u (by decide))⟩, by dsimp only; omega⟩
theorem F_floors (h : JX A a 4 V W) : ∃ (W' : dV) (u : Int), f_X12_floors W a = (W', u) ∧ sf_fr a W W' := by
  obtain ⟨U, r1, r2⟩ := F_floors0 h
  unfold f_X12_floors
  rw [dv_bn2 r1, bq]
  exact ⟨U, _, rfl, r2⟩
theorem F_look (h : JX A a 4 V W) : ∃ (W' : dV) (u : Int), f_X12_look W a p = (W', u) ∧ sf_fr a W W' := by
  unfold f_X12_look
  rw [bq2]
  by_cases e : (f_X12_lies W p 0 2).1 ≠ 0
  · obtain ⟨U, r1, r2⟩ := F_floors0 h
    rw [if_pos e, dv_bn2 r1]
    have E72 : ∀ j2 j3 : Int, ∃ u, f_X12_look_72 U p j2 j3 = Sum.inr (U, u) := by
      intro j2 j3
      unfold f_X12_look_72
      by_cases e1 : j2 ≠ -1
      · rw [if_pos e1]
        by_cases e2 : p ≠ 0
        · rw [if_pos e2]
          by_cases e3 : p ≠ 1
          · rw [if_pos e3]; exact ⟨_, rfl⟩
          · rw [if_neg e3, bq]; exact ⟨_, rfl⟩
        · rw [if_neg e2, bq]; exact ⟨_, rfl⟩
      · rw [if_neg e1]; exact ⟨_, rfl⟩
    refine dv_inv (b := f_X12_look_23b) (P := fun s => ∃ (j2 j3 j4 : Int), s = (U, a, p, j2, j3, j4)) (Q := fun r => ∃ (U' : dV) (u : Int), r = (U', u) ∧ sf_fr a W U') (m := fun s => (144 - s.2.2.2.2.2).toNat) ?_ _ ⟨_, _, _, rfl⟩
    rintro s ⟨j2, j3, j4, rfl⟩
    have E66 : ∀ b2 b3 : Int, f_X12_look_66 U a p j4 b2 b3 = Sum.inl (U, a, p, b2, b3, j4 + 1) := fun b2 b3 => by
      unfold f_X12_look_66
      rw [bq]
    obtain ⟨u, hu⟩ := E72 j2 j3
    rw [f_X12_look_23e]
    unfold f_X12_look_23c
    by_cases e1 : 144 ≤ j4
    · rw [if_pos e1, hu]
      exact Or.inr ⟨_, rfl, U, u, rfl, r2⟩
    · rw [if_neg e1, bq]
      by_cases e2 : U a 41 0 ≤ 0
      · rw [if_pos e2, hu]
        exact Or.inr ⟨_, rfl, U, u, rfl, r2⟩
      · rw [if_neg e2, bq2]
        by_cases e3 : (f_X12_mostAt U a j4).1 = 0
        · rw [if_pos e3, E66]
          exact Or.inl ⟨_, rfl, ⟨_, _, _, rfl⟩, by dsimp only; omega⟩
        · rw [if_neg e3]
          by_cases e4 : (f_X12_mostAt U a j4).1 < j3
          · rw [if_pos e4, E66]
            exact Or.inl ⟨_, rfl, ⟨_, _, _, rfl⟩, by dsimp only; omega⟩
          · rw [if_neg e4, E66]
            exact Or.inl ⟨_, rfl, ⟨_, _, _, rfl⟩, by dsimp only; omega⟩
  · rw [if_neg e]; exact ⟨W, _, rfl, sf_r⟩
theorem F_halls (h : JX A a 4 V W) : ∃ (W' : dV) (u : Int), f_X12_halls W a p = (W', u) ∧ sf_fr a W W' := by
  unfold f_X12_halls
  by_cases e : -1 ≤ p
  case neg =>
    rw [if_neg e]; exact ⟨W, _, rfl, sf_r⟩
  rw [if_pos e]
  have L93 : ∀ (U : dV) (m2 m3 : Int), sd0 a U → sf_fr a W U → ∃ (U' : dV) (u : Int), dv_lp f_X12_halls_93b (U, a, p, m2, m3, 0, 1) = Sum.inr (U', u) ∧ sf_fr a W U' := by
    intro U0 m2 m3 hs hU0
    refine dv_inv (b := f_X12_halls_93b) (P := fun s => ∃ (U : dV) (j4 j5 : Int), s = (U, a, p, m2, m3, j4, j5) ∧ sd0 a U ∧ sf_fr a W U) (Q := fun r => ∃ (U' : dV) (u : Int), r = Sum.inr (U', u) ∧ sf_fr a W U') (m := fun s => (13 - s.2.2.2.2.2.2).toNat) ?_ _ ⟨U0, 0, 1, rfl, hs, hU0⟩
    rintro s ⟨U, j4, j5, rfl, hd, hU⟩
    have E156 : ∀ (T : dV) (b : Int), f_X12_halls_156 T a p m2 m3 j5 b = Sum.inl (T, a, p, m2, m3, b, j5 + 1) := fun T b => by
      unfold f_X12_halls_156
      rw [bq]
    rw [f_X12_halls_93e]
    unfold f_X12_halls_93c
    by_cases e1 : 12 < j5
    · rw [if_pos e1]
      by_cases e2 : p ≠ -1
      · rw [if_pos e2]; exact Or.inr ⟨_, rfl, U, _, rfl, hU⟩
      · rw [if_neg e2]; exact Or.inr ⟨_, rfl, U, _, rfl, hU⟩
    · rw [if_neg e1, bq, bq]
      by_cases e2 : m3 ≠ j5 * (m3 / j5)
      · rw [if_pos e2, E156]
        exact Or.inl ⟨_, rfl, ⟨U, _, _, rfl, hd, hU⟩, by dsimp only; omega⟩
      · rw [if_neg e2, bq2]
        by_cases e3 : (f_X12_isSide U (m3 / j5)).1 = 0
        · rw [if_pos e3, E156]
          exact Or.inl ⟨_, rfl, ⟨U, _, _, rfl, hd, hU⟩, by dsimp only; omega⟩
        · obtain ⟨U1, r, r1, r2⟩ := s_can (p := m2) (w := j5) (g := m3 / j5) hd
          have hd1 := sd0_c hd r2
          have hU1 := sf_t hU r2
          rw [if_neg e3, dv_bn2 r1]
          by_cases e4 : r ≠ 0
          · rw [if_pos e4]
            by_cases e5 : j4 ≠ p
            · rw [if_pos e5, bq, E156]
              exact Or.inl ⟨_, rfl, ⟨U1, _, _, rfl, hd1, hU1⟩, by dsimp only; omega⟩
            · rw [if_neg e5, bq, bq]
              exact Or.inr ⟨_, rfl, U1, _, rfl, hU1⟩
          · rw [if_neg e4, E156]
            exact Or.inl ⟨_, rfl, ⟨U1, _, _, rfl, hd1, hU1⟩, by dsimp only; omega⟩
  refine dv_inv (b := f_X12_halls_14b) (P := fun s => ∃ (j2 j3 j4 : Int), s = (W, a, p, j2, j3, j4)) (Q := fun r => ∃ (U' : dV) (u : Int), r = (U', u) ∧ sf_fr a W U') (m := fun s => (W a 2 69 - s.2.2.2.2.2).toNat) ?_ _ ⟨0, 0, 0, rfl⟩
  rintro s ⟨j2, j3, j4, rfl⟩
  have E66 : ∀ b2 b3 : Int, f_X12_halls_66 W a p j4 b2 b3 = Sum.inl (W, a, p, b2, b3, j4 + 1) := fun b2 b3 => by
    unfold f_X12_halls_66
    rw [bq]
  rw [f_X12_halls_14e]
  unfold f_X12_halls_14c
  rw [dv_bn2 q_many]
  by_cases e1 : W a 2 69 ≤ j4
  · obtain ⟨U1, r1, r2⟩ := s_prices (p := j2) h
    have F : sf_fr a W (dv_u (dv_u U1 a 44 0 0) a 45 0 1) := sf_t r2 (sf_t (sf_u (by decide)) (sf_u (by decide)))
    obtain ⟨U2, u, z1, z2⟩ := L93 _ j2 j3 (sd0_c (JX_sd h) F) F
    rw [if_pos e1, dv_bn2 r1, bq, bq, z1]
    exact Or.inr ⟨_, rfl, U2, u, rfl, z2⟩
  · rw [if_neg e1, bq2]
    by_cases e2 : (f_X12_isWhole W a j4).1 ≠ 0
    · rw [if_pos e2, bq, bq, bq, bq, bq, bq, bq, bq, E66]
      exact Or.inl ⟨_, rfl, ⟨_, _, _, rfl⟩, by dsimp only; omega⟩
    · rw [if_neg e2, E66]
      exact Or.inl ⟨_, rfl, ⟨_, _, _, rfl⟩, by dsimp only; omega⟩
theorem F_bare (h : JX A a 4 V W) : ∃ (W' : dV) (u : Int), f_X12_bare W a p = (W', u) ∧ sf_fr a W W' := by
  unfold f_X12_bare
  rw [bq2]
  by_cases e : (f_X12_lies W p 0 2).1 ≠ 0
  · rw [if_pos e]
    by_cases e1 : p ≠ 0
    · obtain ⟨U, r1, r2⟩ := s_cover h
      rw [if_pos e1, dv_bn2 r1, bq, bq, bq2]
      by_cases e2 : (f_X12_firstBare U a (U a 2 67) (U a 2 68)).1 ≠ -1
      · rw [if_pos e2]
        by_cases e3 : p ≠ 1
        · rw [if_pos e3, bq]; exact ⟨U, _, rfl, r2⟩
        · rw [if_neg e3, bq]; exact ⟨U, _, rfl, r2⟩
      · rw [if_neg e2]; exact ⟨U, _, rfl, r2⟩
    · rw [if_neg e1, bq2]; exact ⟨W, _, rfl, sf_r⟩
  · rw [if_neg e]; exact ⟨W, _, rfl, sf_r⟩
theorem F_fitting (h : JX A a 4 V W) : ∃ (W' : dV) (u : Int), f_X12_fitting W a p = (W', u) ∧ sf_fr a W W' := by
  unfold f_X12_fitting
  rw [bq2]
  by_cases e : (f_X12_isSide W p).1 ≠ 0
  case neg =>
    rw [if_neg e]; exact ⟨W, _, rfl, sf_r⟩
  obtain ⟨U, r1, r2⟩ := s_cover h
  rw [if_pos e, dv_bn2 r1]
  have L31 : ∀ j3 j2 : Int, ∃ t : Int, dv_lp f_X12_fitting_31b (U, a, p, j3, j2, 0) = Sum.inl (U, a, p, t, j3 + 1) := by
    intro j3 j2
    refine dv_inv (b := f_X12_fitting_31b) (P := fun s => ∃ (b2 j4 : Int), s = (U, a, p, j3, b2, j4)) (Q := fun r => ∃ t : Int, r = Sum.inl (U, a, p, t, j3 + 1)) (m := fun s => (U a 2 68 - s.2.2.2.2.2).toNat) ?_ _ ⟨j2, 0, rfl⟩
    rintro s ⟨b2, j4, rfl⟩
    have E74 : ∀ v : Int, f_X12_fitting_74 U a p j3 j4 b2 v = Sum.inl (U, a, p, j3, dv_add b2 v, j4 + 1) := fun v => by
      unfold f_X12_fitting_74
      rw [bq, bq]
    rw [f_X12_fitting_31e]
    unfold f_X12_fitting_31c
    rw [bq]
    by_cases e1 : U a 2 68 ≤ j4
    · rw [if_pos e1, bq]; exact Or.inr ⟨_, rfl, _, rfl⟩
    · rw [if_neg e1, bq, bq, bq2]
      by_cases e2 : (f_X12_isFree U a p j3 j4 (U a 2 67) (U a 2 68)).1 = 0
      · rw [if_pos e2, E74]; exact Or.inl ⟨_, rfl, ⟨_, _, rfl⟩, by dsimp only; omega⟩
      · rw [if_neg e2, E74]; exact Or.inl ⟨_, rfl, ⟨_, _, rfl⟩, by dsimp only; omega⟩
  refine dv_inv (b := f_X12_fitting_17b) (P := fun s => ∃ (b2 j3 : Int), s = (U, a, p, b2, j3)) (Q := fun r => ∃ (U' : dV) (u : Int), r = (U', u) ∧ sf_fr a W U') (m := fun s => (U a 2 67 - s.2.2.2.2).toNat) ?_ _ ⟨0, 0, rfl⟩
  rintro s ⟨b2, j3, rfl⟩
  rw [f_X12_fitting_17e]
  unfold f_X12_fitting_17c
  rw [bq]
  by_cases e1 : U a 2 67 ≤ j3
  · rw [if_pos e1]; exact Or.inr ⟨_, rfl, U, _, rfl, r2⟩
  · obtain ⟨t, ht⟩ := L31 j3 b2
    rw [if_neg e1, ht]
    exact Or.inl ⟨_, rfl, ⟨_, _, rfl⟩, by dsimp only; omega⟩
end QTT
section QTU
variable {V V' U U' W W' W0 W1 W2 : dV} {a x y c p q k : Int} {A : Nat → Int} {i : Nat}
/-- another law in force -/
theorem RR_fc (h : RR A a V W) (e : -1 ≤ p ∧ p < W a 2 71) : RR A a (dv_u V (A 1) 6 0 p) (dv_u W a 2 72 p) := by
  have hA := h.1
  obtain ⟨-, -, ⟨-, k2, k3⟩, -⟩ := id h
  obtain ⟨l1, l2, l3, l4, l5⟩ := id k3
  have l1 : V (A 1) 5 0 = W a 2 71 := by have := l1; rw [Int.zero_add] at this; exact this
  have l2 : 0 ≤ V (A 1) 5 0 ∧ V (A 1) 5 0 ≤ 6 := l2
  have n1 : ∀ {i : Nat}, i < 38 → i ≠ 1 → ∀ m z, dv_u V (A 1) 6 0 p (A i) m z = V (A i) m z := fun hi hn m z => u_b (inj_n hA hi (by decide) hn)
  refine RR_st h (cf_u hA (by decide) rfl) (wf_u rfl) (fun z hz => u_i (by omega)) (seR_c k2 (u_j (by decide)) (fun z _ _ => ⟨u_j (by decide), u_j (by decide), u_j (by decide)⟩) (fun z hz => u_i (by omega))) ⟨?_, ?_, ?_, ?_, fun t ht => ?_⟩
  · show dv_u V (A 1) 6 0 p (A 1) 5 0 = dv_u W a 2 72 p a 2 71
    rw [u_j (by decide), u_i (by decide), l1]
  · show 0 ≤ dv_u V (A 1) 6 0 p (A 1) 5 0 ∧ dv_u V (A 1) 6 0 p (A 1) 5 0 ≤ 6
    rw [u_j (by decide)]; exact l2
  · show dv_u V (A 1) 6 0 p (A 1) 6 0 = dv_u W a 2 72 p a 2 72
    rw [u_e, u_e]
  · show -1 ≤ dv_u V (A 1) 6 0 p (A 1) 6 0 ∧ dv_u V (A 1) 6 0 p (A 1) 6 0 < dv_u V (A 1) 6 0 p (A 1) 5 0
    rw [u_e, u_j (by decide), l1]; exact e
  · have ht : (t : Int) < dv_u V (A 1) 6 0 p (A 1) 5 0 := ht
    rw [u_j (by decide)] at ht
    exact txR_c (by omega) (by omega) (l5 t ht) (fun z _ => n1 (by omega) (by omega) 0 z) (fun z _ _ => n1 (by omega) (by omega) 1 z) (n1 (by omega) (by omega) 2 0) (n1 (by omega) (by omega) 3 0) (fun z hz => u_i (by omega))
/-- what the reference's search changes, where it puts back what is kept -/
def sk_fr (a : Int) (W W' : dV) : Prop := (∀ b m z, ¬ (b = a ∧ (m = 2 ∨ (22 ≤ m ∧ m ≤ 26) ∨ (29 ≤ m ∧ m ≤ 30) ∨ (34 ≤ m ∧ m ≤ 45))) → W' b m z = W b m z) ∧ ∀ z, W' a 2 z = W a 2 z
theorem sk_r : sk_fr a W W := ⟨fun _ _ _ _ => rfl, fun _ => rfl⟩
theorem sk_t (h : sk_fr a W W') (k : sk_fr a W' W1) : sk_fr a W W1 := ⟨fun b m z q => (k.1 b m z q).trans (h.1 b m z q), fun z => (k.2 z).trans (h.2 z)⟩
theorem sk_s (h : sf_fr a W W') : sk_fr a W W' := ⟨fun b m z q => h b m z (fun w => q ⟨w.1, Or.inr w.2⟩), sf_2 h⟩
theorem RR_sk (h : RR A a V W) (f : sk_fr a W W') : RR A a V W' := by
  refine RR_idle h cf_r (fun m z hm => f.1 a m z (fun q => ?_)) (fun _ _ => rfl) (fun _ _ _ _ => rfl) (fun _ => ⟨rfl, rfl⟩) f.2 (fun z => f.1 a 31 z (fun q => absurd q.2 (by omega))) (f.1 a 33 0 (fun q => absurd q.2 (by omega)))
  unfold M_a at hm
  simp only [Bool.or_eq_false_iff, Bool.and_eq_false_iff, beq_eq_false_iff_ne, decide_eq_false_iff_not, ne_eq] at hm
  omega
theorem F_compare (h : RR A a V W) : ∃ (W' : dV) (u : Int), f_X12_compare W a p = (W', u) ∧ sk_fr a W W' := by
  unfold f_X12_compare
  rw [bq2, q_isLaw]
  dsimp only
  by_cases e : -1 ≤ p ∧ p < W a 2 71
  · obtain ⟨U, u, r1, r2⟩ := F_cheapest (RR_JX (RR_fc h e))
    rw [if_pos e, if_pos (by decide), bq, bq, dv_bn2 r1, bq]
    refine ⟨_, _, rfl, fun b m z q => ?_, fun z => ?_⟩
    · have h1 : r2 = r2 := rfl
      have e1 : dv_u U a 2 72 (W a 2 72) b m z = U b m z := by
        unfold dv_u; rw [if_neg (fun w => q ⟨w.1, Or.inl w.2.1⟩)]
      have e2 : dv_u W a 2 72 p b m z = W b m z := by
        unfold dv_u; rw [if_neg (fun w => q ⟨w.1, Or.inl w.2.1⟩)]
      rw [e1, r2 b m z (fun w => q ⟨w.1, Or.inr w.2⟩), e2]
    · rw [u_if]
      by_cases e1 : z = 72
      · rw [if_pos e1, e1]
      · rw [if_neg e1, sf_2 r2, u_i e1]
  · rw [if_neg e, if_neg (fun w => w rfl)]
    exact ⟨W, _, rfl, sk_r⟩
theorem s_mov (h : RR A a V W) (c0 : 0 ≤ c) (c1 : c < W a 2 69) : ∃ (W' : dV) (u : Int), f_X12_isMovable W a c = (W', u) ∧ sk_fr a W W' := by
  have e7 := (RR_n h).2.1
  have n9 := (RR_n h).1.1.1
  obtain ⟨U, r1, r2⟩ := s_now (p := 0) (RR_JX (RR_roll (c := c) h ⟨c0, by omega⟩))
  have F : sk_fr a W (dv_u (dv_u U a 2 (9 + c) (W a 2 (9 + c))) a 2 (18 + c) (W a 2 (18 + c))) := by
    refine ⟨fun b m z q => ?_, fun z => ?_⟩
    · have e1 : ∀ (T : dV) (i v : Int), dv_u T a 2 i v b m z = T b m z := fun T i v => by
        unfold dv_u; rw [if_neg (fun w => q ⟨w.1, Or.inl w.2.1⟩)]
      rw [e1, e1, r2 b m z (fun w => q ⟨w.1, Or.inr w.2⟩), e1, e1]
    · rw [u_if, u_if, sf_2 r2, u_if, u_if]
      by_cases q1 : z = 18 + c
      · rw [if_pos q1, q1]
      · rw [if_neg q1, if_neg q1]
        by_cases q2 : z = 9 + c
        · rw [if_pos q2, q2]
        · rw [if_neg q2, if_neg q2]
  unfold f_X12_isMovable
  rw [bq, bq, bq, bq, dv_bn2 m_rolls, dv_bn2 r1, bq, bq, bq, bq, bq]
  by_cases e1 : dv_u (dv_u U a 2 (9 + c) (W a 2 (9 + c))) a 2 (18 + c) (W a 2 (18 + c)) a 41 0 ≠ 1
  · rw [if_pos e1]; exact ⟨_, _, rfl, F⟩
  · rw [if_neg e1, bq]
    by_cases e2 : dv_u (dv_u U a 2 (9 + c) (W a 2 (9 + c))) a 2 (18 + c) (W a 2 (18 + c)) a 42 0 ≠ 1
    · rw [if_pos e2]; exact ⟨_, _, rfl, F⟩
    · rw [if_neg e2, bq]
      by_cases e3 : dv_u (dv_u U a 2 (9 + c) (W a 2 (9 + c))) a 2 (18 + c) (W a 2 (18 + c)) a 37 0 = c
      · rw [if_pos e3]; exact ⟨_, _, rfl, F⟩
      · rw [if_neg e3]; exact ⟨_, _, rfl, F⟩
theorem F_free (h : RR A a V W) : ∃ (W' : dV) (u : Int), f_X12_free W a = (W', u) ∧ sk_fr a W W' := by
  unfold f_X12_free
  refine dv_inv (b := f_X12_free_4b) (P := fun s => ∃ (U : dV) (j1 j2 : Int), s = (U, a, j1, j2) ∧ 0 ≤ j2 ∧ sk_fr a W U) (Q := fun r => ∃ (U' : dV) (u : Int), r = (U', u) ∧ sk_fr a W U') (m := fun s => (W a 2 69 - s.2.2.2).toNat) ?_ _ ⟨W, 0, 0, rfl, by decide, sk_r⟩
  rintro s ⟨U, j1, j2, rfl, j0, hU⟩
  rw [f_X12_free_4e]
  unfold f_X12_free_4c
  rw [dv_bn2 q_many, hU.2]
  by_cases e : W a 2 69 ≤ j2
  · rw [if_pos e]; exact Or.inr ⟨_, rfl, U, _, rfl, hU⟩
  · rw [if_neg e, bq2]
    by_cases e1 : (f_X12_isLaid U a j2).1 = 0
    · rw [if_pos e1, bq, bq]
      exact Or.inl ⟨_, rfl, ⟨U, _, _, rfl, by omega, hU⟩, by dsimp only; omega⟩
    · obtain ⟨U1, u, r1, r2⟩ := s_mov (RR_sk h hU) j0 (by rw [hU.2]; omega)
      have hU1 := sk_t hU r2
      rw [if_neg e1, dv_bn2 r1]
      by_cases e2 : u = 0
      · rw [if_pos e2, bq, bq]
        exact Or.inl ⟨_, rfl, ⟨U1, _, _, rfl, by omega, hU1⟩, by dsimp only; omega⟩
      · rw [if_neg e2, bq, bq, bq]
        exact Or.inl ⟨_, rfl, ⟨U1, _, _, rfl, by omega, hU1⟩, by dsimp only; omega⟩
end QTU
end
section
section QTV
variable {V V' W W' : dV} {a x y c p q k u : Int} {A : Nat → Int} {i : Nat}
/-- what the class's search changes of the objects -/
def cs_L (i m : Nat) : Bool := i == 8 || i == 12 || i == 14 || i == 18 || i == 19 || (m == 6 && ((4 ≤ i && i ≤ 8) || i == 16))
/-- the class has searched -/
theorem RR_cs (h : RR A a V W) (f : cf A cs_L V V') (hw : ∀ k, 8 ≤ k → k < 23 → -2147483648 ≤ V' (A 14) 1 k ∧ V' (A 14) 1 k ≤ 2147483647) : RR A a V' W := by
  obtain ⟨h1, h2, h3, h4, h5, h6, h7, h8, h9, h10⟩ := h
  exact ⟨h1, G_c h2 (cf_ag f rfl), stR_c (by decide) h3 (cf_ag f rfl) (fun _ _ => rfl), imR_c h4 (cf_ag f rfl) (fun _ => rfl) (fun _ => rfl), tpR_c h5 (cf_ag f rfl) (fun _ => rfl) rfl, psR_c h6 (cf_ag f rfl) (fun _ => rfl) rfl, ppR_c h7 (cf_ag f rfl) (fun _ => rfl) rfl, miR_c h8 (cf_ag f rfl) rfl (fun _ => rfl), taR_c h9 (cf_ag f rfl) rfl rfl rfl, ⟨fun z => by rw [f 10 1 z (by decide) (by decide) rfl]; exact h10.1 z, h10.2.1, hw⟩⟩
theorem L_at (h : RR A a V W) : ∃ u, f_X11_at V (A 0) x y = (u, ()) ∧ f_X12_at W a x y = (u, ()) := by
  obtain ⟨g0, g1, -⟩ := RR_G h
  obtain ⟨kk, e7, -⟩ := RR_n h
  have e : ef (V (A 4)) (kf (W a 2) 0) := h.2.2.1.1.1
  have h2 := ef_fb e kk.1
  obtain ⟨r, e1, h1⟩ := q_carpetOn (V := V) (a := A 4) (px := x) (py := y) kk.1
  obtain ⟨r', e1', h1'⟩ := q_at (V := W) (a := a) (px := x) (py := y) h2
  have hn := kk.1.1
  have er : r = r' := by
    rcases h1 with ⟨rfl, k1⟩ | ⟨a0, a1, a2⟩
    · rcases h1' with ⟨rfl, -⟩ | ⟨b0, b1, b2⟩
      · rfl
      · exact absurd ((ef_cov e b0 (by omega)).mpr b2) (k1 r' b0 (by omega))
    · rcases h1' with ⟨rfl, k1⟩ | ⟨b0, b1, b2⟩
      · exact absurd ((ef_cov e a0 (by omega)).mp a2) (k1 r a0 (by omega))
      · exact kk.2.1 r r' x y a0 a1 b0 (by omega) a2 ((ef_cov e b0 (by omega)).mpr b2)
  refine ⟨r, ?_, by rw [e1', er]⟩
  unfold f_X11_at
  rw [bq, g0, bq, g1, dv_bn2 e1]
end QTV
section QTW
variable {V V' V1 V2 W W' : dV} {a r1 r2 : Int} {A : Nat → Int}
def nV (_ _ : Nat) : Bool := false
def nW (_ : Nat) : Bool := false
theorem apart_0 {D : Nat → Nat → Bool} : apart nV D = true := by
  unfold apart nV
  simp
/-- RR hangs on the class's objects in V and the reference's in W -/
theorem RR_VW (h : RR A a V W) (f : cf A nV V V') (g : wf a nW W W') : RR A a V' W' := by
  obtain ⟨h1, h2, h3, h4, h5, h6, h7, h8, h9, h10⟩ := h
  exact ⟨h1, G_c h2 (cf_ag f apart_0), stR_c (by decide) h3 (cf_ag f apart_0) (fun z _ => g 2 _ rfl), imR_c h4 (cf_ag f apart_0) (fun z => g 3 z rfl) (fun z => g 4 z rfl), tpR_c h5 (cf_ag f apart_0) (fun z => g 11 z rfl) (g 13 0 rfl), psR_c h6 (cf_ag f apart_0) (fun z => g 31 z rfl) (g 33 0 rfl), ppR_c h7 (cf_ag f apart_0) (fun z => g 54 z rfl) (g 55 0 rfl), miR_c h8 (cf_ag f apart_0) (g 0 0 rfl) (fun z => g 1 z rfl), taR_c h9 (cf_ag f apart_0) (g 14 0 rfl) (g 6 0 rfl) (g 47 0 rfl), rdR_c h10 (fun z => f 10 1 z (by decide) (by decide) rfl) (fun z _ => f 14 1 z (by decide) (by decide) rfl) (fun z => g 7 z rfl) (fun z => g 17 z rfl)⟩
/-- a call of the class, then a call of the reference -/
theorem glue {fV fW : dV → dR} (h : RR A a V V) (L : ∀ W, RR A a V W → ∃ V' W' u, fV V = (V', u) ∧ fW W = (W', u) ∧ RR A a V' W') (e1 : fV V = (V1, r1)) (g1 : wf a nW V V1) (e2 : fW V1 = (V2, r2)) (f2 : cf A nV V1 V2) : r1 = r2 ∧ RR A a V2 V2 := by
  obtain ⟨V', W', u, k1, k2, k3⟩ := L V1 (RR_VW h cf_r g1)
  rw [e1] at k1
  rw [e2] at k2
  have q1 : V' = V1 := (congrArg Prod.fst k1).symm
  have q2 : u = r1 := (congrArg Prod.snd k1).symm
  have q3 : W' = V2 := (congrArg Prod.fst k2).symm
  have q4 : u = r2 := (congrArg Prod.snd k2).symm
  subst q1 q3
  exact ⟨q2.symm.trans q4, RR_VW k3 f2 wf_r⟩
/-- a question to both -/
theorem glue_P {fV fW : dV → dP} (L : ∃ u, fV V = (u, ()) ∧ fW V = (u, ())) (e1 : fV V = (r1, ())) (e2 : fW V = (r2, ())) : r1 = r2 := by
  obtain ⟨u, k1, k2⟩ := L
  rw [e1] at k1
  rw [e2] at k2
  exact (congrArg Prod.fst k1).trans (congrArg Prod.fst k2).symm
/-- the class searches -/
theorem glue_C (h : RR A a V V) (f : cf A cs_L V V1) (hw : ∀ k, 8 ≤ k → k < 23 → -2147483648 ≤ V1 (A 14) 1 k ∧ V1 (A 14) 1 k ≤ 2147483647) (g1 : wf a nW V V1) : RR A a V1 V1 := RR_VW (RR_cs h f hw) cf_r g1
/-- the reference searches -/
theorem glue_S {fW : dV → dR} (h : RR A a V V) (L : ∃ (W' : dV) (u : Int), fW V = (W', u) ∧ sk_fr a V W') (e2 : fW V = (V2, r2)) (f2 : cf A nV V V2) : RR A a V2 V2 := by
  obtain ⟨W', u, k1, k2⟩ := L
  rw [e2] at k1
  have q : W' = V2 := (congrArg Prod.fst k1).symm
  subst q
  exact RR_VW (RR_sk h k2) f2 wf_r
theorem sk_of {fW : dV → dR} (L : ∃ (W' : dV) (u : Int), fW V = (W', u) ∧ sf_fr a V W') : ∃ (W' : dV) (u : Int), fW V = (W', u) ∧ sk_fr a V W' := by
  obtain ⟨W', u, k1, k2⟩ := L
  exact ⟨W', u, k1, sk_s k2⟩
end QTW
end
section
section QTX
variable {V W : dV} {a : Int} {A : Nat → Int}
/-- all is new -/
theorem RR_0 (hA : inj A) (hG : G A V)
    (h4 : ∀ c, 0 ≤ c → c < 9 → V (A 4) 0 c = 0 ∧ V (A 4) 1 c = 0 ∧ V (A 4) 2 c = 0 ∧ V (A 4) 3 c = 0 ∧ V (A 4) 4 c = 0)
    (h5 : V (A 4) 5 0 = 0 ∧ V (A 4) 5 1 = 1 ∧ V (A 4) 5 2 = 0) (h7 : V (A 4) 7 0 = 0 ∧ V (A 4) 8 0 = 8 ∧ V (A 4) 9 0 = 8 ∧ V (A 4) 10 0 = 0)
    (hS : V (A 1) 5 0 = 0 ∧ V (A 1) 6 0 = -1 ∧ V (A 1) 7 0 = 0)
    (hK : ∀ z, 0 ≤ z → z < 5680 → W a 2 z = if z = 65 then 1 else if z = 67 then 8 else if z = 68 then 8 else if z = 72 then -1 else 0)
    (hi : ∀ k : Nat, k < 2 → V (A 0) 2 (k : Int) = 0 ∧ W a 4 (k : Int) = 0) (ht : V (A 9) 1 0 = 0 ∧ W a 13 0 = 0) (hp : V (A 15) 4 0 = 0 ∧ W a 33 0 = 0)
    (h77 : V (A 7) 7 0 = 0 ∧ (W a 55 0 = 0 ∨ W a 55 0 = -1)) (h72 : ∀ c, 0 ≤ c → c < 9 → V (A 7) 2 c = 0 ∧ V (A 7) 3 c = 0 ∧ V (A 7) 4 c = 0) (h54 : ∀ z, 0 ≤ z → z < 27 → W a 54 z = 0)
    (hm : ∀ z, 0 ≤ z → z < 5 → V (A 0) 13 z = 0) (hm1 : ∀ z, 0 ≤ z → z < 7 → W a 1 z = 0) (hs : V (A 0) 14 0 = W a 0 0)
    (ha : V (A 0) 15 0 = W a 14 0 ∧ V (A 0) 16 0 = W a 6 0 ∧ V (A 0) 17 0 = W a 47 0)
    (hr : ∀ z, V (A 10) 1 z = W a 17 z) (hw : ∀ z, 0 ≤ z → z < 127 → W a 7 z = WT.getD z.toNat 0)
    (hk : ∀ k, 8 ≤ k → k < 23 → -2147483648 ≤ V (A 14) 1 k ∧ V (A 14) 1 k ≤ 2147483647) : RR A a V W := by
  obtain ⟨e7, e8, e9, e10⟩ := h7
  obtain ⟨e50, e51, e52⟩ := h5
  have k0 : ∀ z, 0 ≤ z → z < 47 → W a 2 z = 0 := fun z z0 z1 => by
    rw [hK z z0 (by omega), if_neg (by omega), if_neg (by omega), if_neg (by omega), if_neg (by omega)]
  have k65 : W a 2 65 = 1 := by rw [hK 65 (by decide) (by decide)]; rfl
  have k66 : W a 2 66 = 0 := by rw [hK 66 (by decide) (by decide)]; rfl
  have k67 : W a 2 67 = 8 := by rw [hK 67 (by decide) (by decide)]; rfl
  have k68 : W a 2 68 = 8 := by rw [hK 68 (by decide) (by decide)]; rfl
  have k69 : W a 2 69 = 0 := by rw [hK 69 (by decide) (by decide)]; rfl
  have k70 : W a 2 70 = 0 := by rw [hK 70 (by decide) (by decide)]; rfl
  have k71 : W a 2 71 = 0 := by rw [hK 71 (by decide) (by decide)]; rfl
  have k72 : W a 2 72 = -1 := by rw [hK 72 (by decide) (by decide)]; rfl
  have g : kgf (V (A 4)) := by
    refine ⟨⟨by omega, by omega, by omega, fun c c0 c1 => absurd c1 (by omega)⟩, fun c d px py c0 c1 => absurd c1 (by omega), fun c c0 c1 => absurd c1 (by omega), fun c c0 c1 => absurd c1 (by omega), ?_, ?_, ?_, ?_, ?_⟩
    · omega
    · omega
    · omega
    · omega
    · omega
  refine ⟨hA, hG, ⟨⟨ef_of ⟨by rw [e7, k69], by rw [e8, k67], by rw [e9, k68], by rw [e10, k0 27 (by decide) (by decide)], by rw [e50, k0 28 (by decide) (by decide)], by rw [e51, k65], by rw [e52, k66], fun c c0 c9 => ?_⟩, g⟩, ⟨?_, ?_, fun z z0 z1 => absurd z1 ?_⟩, ⟨?_, ?_, ?_, ?_, fun t ht' => absurd ht' ?_⟩⟩, fun k k2 => ⟨?_, fun n => absurd (hi k k2).1 n⟩, ⟨by rw [ht.1, ht.2], by rw [ht.2]; decide, fun z z0 z1 => absurd z1 (by rw [ht.2]; omega)⟩, ⟨by rw [hp.1, hp.2], by rw [hp.2]; decide, fun u u0 u1 => absurd u1 (by rw [hp.2]; omega)⟩, ⟨?_, by rw [h77.1]; decide, fun c c0 c9 => ?_⟩, ⟨?_, hs⟩, ha, hr, hw, hk⟩
  · obtain ⟨q0, q1, q2, q3, q4⟩ := h4 c c0 c9
    rw [q0, q1, q2, q3, q4, k0 _ (by omega) (by omega), k0 _ (by omega) (by omega), k0 _ (by omega) (by omega), k0 _ (by omega) (by omega), k0 _ (by omega) (by omega)]
    exact ⟨rfl, rfl, rfl, rfl, rfl⟩
  · show V (A 1) 7 0 = W a 2 (0 + 70)
    rw [hS.2.2, Int.zero_add, k70]
  · show 0 ≤ V (A 1) 7 0 ∧ V (A 1) 7 0 ≤ 6
    rw [hS.2.2]; decide
  · show ¬ z < V (A 1) 7 0
    rw [hS.2.2]; omega
  · show V (A 1) 5 0 = W a 2 (0 + 71)
    rw [hS.1, Int.zero_add, k71]
  · show 0 ≤ V (A 1) 5 0 ∧ V (A 1) 5 0 ≤ 6
    rw [hS.1]; decide
  · show V (A 1) 6 0 = W a 2 (0 + 72)
    rw [hS.2.1, Int.zero_add, k72]
  · show -1 ≤ V (A 1) 6 0 ∧ V (A 1) 6 0 < V (A 1) 5 0
    rw [hS.1, hS.2.1]; decide
  · show ¬ (t : Int) < V (A 1) 5 0
    rw [hS.1]; omega
  · rw [(hi k k2).1, (hi k k2).2]
  · rcases h77.2 with q | q
    · exact Or.inl (by rw [h77.1, q])
    · exact Or.inr ⟨h77.1, q⟩
  · obtain ⟨q2, q3, q4⟩ := h72 c c0 c9
    rw [q2, q3, q4, h54 _ (by omega) (by omega), h54 _ (by omega) (by omega), h54 _ (by omega) (by omega)]
    exact ⟨rfl, rfl, rfl⟩
  · rw [hm 0 (by decide) (by decide), hm 1 (by decide) (by decide), hm 2 (by decide) (by decide), hm 3 (by decide) (by decide), hm 4 (by decide) (by decide), hm1 1 (by decide) (by decide), hm1 2 (by decide) (by decide), hm1 3 (by decide) (by decide), hm1 5 (by decide) (by decide), hm1 6 (by decide) (by decide)]
    exact ⟨rfl, rfl, rfl, rfl, rfl⟩
end QTX
section QTY
variable {V V' V1 U : dV} {d s p q u : Int}
/-- only the cells of d have changed -/
def bo_fr (d : Int) (V V' : dV) : Prop := ∀ b m z, b ≠ d → V' b m z = V b m z
theorem bo_t (h : bo_fr d V V') (k : bo_fr d V' V1) : bo_fr d V V1 := fun b m z q => (k b m z q).trans (h b m z q)
theorem bo_u {m : Nat} {z y : Int} : bo_fr d V (dv_u V d m z y) := fun _ _ _ h => u_b h
theorem bo_copy (h : f_X1_copyFrom V d s = (V', u)) : bo_fr d V V' := by
  unfold f_X1_copyFrom at h
  rw [bq, bq, bq, bq, bq, bq, bq, bq, bq, bq, bq, bq, bq, bq] at h
  have e := (congrArg Prod.fst h).symm
  dsimp only at e
  rw [e]
  intro b m z hb
  rw [u_b hb, u_b hb, u_b hb, u_b hb, cp_b hb, cp_b hb, cp_b hb, cp_b hb, cp_b hb, cp_b hb]
theorem bo_roll0 : ∃ V' : dV, f_X1_rollUp V d p = (V', 0) ∧ bo_fr d V V' ∧ V' d 7 0 = V d 7 0 := by
  unfold f_X1_rollUp
  rw [bq2]
  by_cases e : (f_X1_has V d p).1 = 0
  · rw [if_pos e]
    exact ⟨V, rfl, fun _ _ _ _ => rfl, rfl⟩
  · rw [if_neg e, bq, bq]
    exact ⟨_, rfl, bo_t bo_u bo_u, by rw [u_j (by decide), u_j (by decide)]⟩
theorem bo_roll (h : f_X1_rollUp V d p = (V', u)) : bo_fr d V V' := by
  obtain ⟨V1, e, f, -⟩ := bo_roll0 (V := V) (d := d) (p := p)
  rw [e] at h
  have e := congrArg Prod.fst h
  dsimp only at e
  rw [← e]
  exact f
theorem bo_into (h : f_X1_emptyInto V d p q = (V', u)) : bo_fr d V V' := by
  have L : ∃ V1 : dV, f_X1_emptyInto V d p q = (V1, 0) ∧ bo_fr d V V1 := by
    unfold f_X1_emptyInto
    refine dv_inv (b := f_X1_emptyInto_2b) (P := fun s => ∃ (U : dV) (j : Int), s = (U, d, p, q, j) ∧ bo_fr d V U ∧ U d 7 0 = V d 7 0) (Q := fun r => ∃ V1 : dV, r = (V1, 0) ∧ bo_fr d V V1) (m := fun s => (V d 7 0 - s.2.2.2.2).toNat) ?_ _ ⟨V, 0, rfl, fun _ _ _ _ => rfl, rfl⟩
    rintro s ⟨U, j, rfl, hU, h7⟩
    rw [f_X1_emptyInto_2e]
    unfold f_X1_emptyInto_2c
    rw [bq, h7]
    by_cases e : V d 7 0 ≤ j
    · rw [if_pos e, bq, bq]
      exact Or.inr ⟨_, rfl, _, rfl, bo_t hU (bo_t bo_u bo_u)⟩
    · obtain ⟨U1, r1, r2, r3⟩ := bo_roll0 (V := U) (d := d) (p := j)
      rw [if_neg e, dv_bn2 r1, bq]
      exact Or.inl ⟨_, rfl, ⟨U1, j + 1, rfl, bo_t hU r2, by rw [r3, h7]⟩, by dsimp only; omega⟩
  obtain ⟨V1, e, f⟩ := L
  rw [e] at h
  have e := congrArg Prod.fst h
  dsimp only at e
  rw [← e]
  exact f
end QTY
end
section
section QTZ
variable {V V' W W' : dV} {a x y c p q k u : Int} {A : Nat → Int} {i : Nat}
/-- two loops side by side -/
theorem dv_sim {σ τ ρ π : Type} [Nonempty ρ] [Nonempty π] {b : σ → Sum σ ρ} {d : τ → Sum τ π} {R : σ → τ → Prop} {Q : ρ → π → Prop} {m : σ → Nat} (h : ∀ s t, R s t → (∃ s' t', b s = .inl s' ∧ d t = .inl t' ∧ R s' t' ∧ m s' < m s) ∨ (∃ r q, b s = .inr r ∧ d t = .inr q ∧ Q r q)) : ∀ s t, R s t → Q (dv_lp b s) (dv_lp d t) := by
  have H : ∀ (k : Nat) s t, m s ≤ k → R s t → Q (dv_lp b s) (dv_lp d t) := by
    intro k
    induction k with
    | zero =>
      intro s t hk hR
      rcases h s t hR with ⟨s', t', e1, e2, hR', hm⟩ | ⟨r, q, e1, e2, hQ⟩
      · omega
      · rw [dv_lp_e e1, dv_lp_e e2]; exact hQ
    | succ k ih =>
      intro s t hk hR
      rcases h s t hR with ⟨s', t', e1, e2, hR', hm⟩ | ⟨r, q, e1, e2, hQ⟩
      · rw [dv_lp_s e1, dv_lp_s e2]; exact ih s' t' (by omega) hR'
      · rw [dv_lp_e e1, dv_lp_e e2]; exact hQ
  exact fun s t hR => H (m s) s t (Nat.le_refl _) hR
theorem il_0 (l : V a 3 c = -1) : f_X1_isLaid V a c = (0, ()) := by rw [q_isLaid, if_neg (fun w => w.2.2 l)]
theorem il_1 (c0 : 0 ≤ c) (c1 : c < V a 7 0) (l : V a 3 c ≠ -1) : f_X1_isLaid V a c = (1, ()) := by rw [q_isLaid, if_pos ⟨c0, c1, l⟩]
theorem ml_0 (l : V a 2 (9 + c) = -1) : f_X12_isLaid V a c = (0, ()) := by rw [q_mLaid, if_pos l]
theorem ml_1 (l : V a 2 (9 + c) ≠ -1) : f_X12_isLaid V a c = (1, ()) := by rw [q_mLaid, if_neg l]
theorem li_0 (l : ¬ (y ≤ x ∧ x ≤ k)) : f_X12_lies V x y k = (0, ()) := by rw [q_lies, if_neg l]
theorem li_1 (l : y ≤ x ∧ x ≤ k) : f_X12_lies V x y k = (1, ()) := by rw [q_lies, if_pos l]
theorem cu_sim (h : RR A a V W) (hu : u = 0 ↔ p = 0) : dv_lp f_X1_sidesAtLine_5b (V, A 4, y, u, 0, 0) = dv_lp f_X12_currents_31b (W, a, y, p, 0, 0) := by
  obtain ⟨kk, e7, e8, e9, e10, e50, e51, e52, ec⟩ := RR_n h
  have h7 : V (A 4) 7 0 ≤ 9 := kk.1.1.2
  refine dv_sim (Q := fun r t => r = t) (R := fun s t => ∃ (n i : Int), s = (V, A 4, y, u, n, i) ∧ t = (W, a, y, p, n, i) ∧ 0 ≤ i ∧ i ≤ 9 ∧ 0 ≤ n ∧ n ≤ 12 * i) (m := fun s => (9 - s.2.2.2.2.2).toNat) ?_ _ _ ⟨0, 0, rfl, rfl, by decide, by decide, by decide, by decide⟩
  rintro s t ⟨n, i, rfl, rfl, i0, i9, n0, n9⟩
  by_cases e : V (A 4) 7 0 ≤ i
  · right
    refine ⟨(n, ()), (n, ()), ?_, ?_, rfl⟩
    · rw [f_X1_sidesAtLine_5e]
      unfold f_X1_sidesAtLine_5c
      rw [bq, if_pos e]
    · rw [f_X12_currents_31e]
      unfold f_X12_currents_31c
      rw [dv_bn2 q_many, if_pos (by omega)]
  left
  obtain ⟨c0, c1, c2, c3, c4⟩ := ec i i0 (by omega)
  have hs := (kk.1.2.2.2 i i0 (by omega)).1
  have e60 : ∀ m : Int, f_X1_sidesAtLine_60 V (A 4) y u i m = .inl (V, A 4, y, u, m, i + 1) := fun m => by
    unfold f_X1_sidesAtLine_60
    rw [bq]
  have e97 : ∀ m : Int, f_X12_currents_97 W a y p i n m = .inl (W, a, y, p, dv_add n m, i + 1) := fun m => by
    unfold f_X12_currents_97
    rw [bq, bq]
  have a0 : dv_add n 0 = n := by rw [dv_add_ok (by omega) (by omega) (by omega) (by omega) (by omega) (by omega), Int.add_zero]
  have a1 : dv_add n (V (A 4) 0 i) = n + V (A 4) 0 i := dv_add_ok (by omega) (by omega) (by omega) (by omega) (by omega) (by omega)
  have e96 : f_X12_currents_96 W a y p i n = .inl (W, a, y, p, n, i + 1) := by
    unfold f_X12_currents_96
    rw [e97, a0]
  have e45 : ∀ m : Int, f_X1_sidesAtLine_45 V (A 4) y u n i (V (A 4) 4 i) m = if dv_add (V (A 4) 4 i) m = y then .inl (V, A 4, y, u, n + V (A 4) 0 i, i + 1) else .inl (V, A 4, y, u, n, i + 1) := fun m => by
    unfold f_X1_sidesAtLine_45
    rw [bq]
    by_cases w : dv_add (V (A 4) 4 i) m = y
    · rw [if_neg (fun g => g w), if_pos w, bq, bq, e60, a1]
    · rw [if_pos w, if_neg w, e60]
  have e78 : ∀ m : Int, f_X12_currents_78 W a y p i n (V (A 4) 4 i) m = if dv_add (V (A 4) 4 i) m = y then .inl (W, a, y, p, n + V (A 4) 0 i, i + 1) else .inl (W, a, y, p, n, i + 1) := fun m => by
    unfold f_X12_currents_78
    rw [bq]
    by_cases w : dv_add (V (A 4) 4 i) m = y
    · rw [if_neg (fun g => g w), if_pos w, bq, bq, e97, ← c0, a1]
    · rw [if_pos w, if_neg w, e96]
  by_cases l : V (A 4) 3 i = -1
  · refine ⟨(V, A 4, y, u, n, i + 1), (W, a, y, p, n, i + 1), ?_, ?_, ⟨n, i + 1, rfl, rfl, by omega, by omega, n0, by omega⟩, by dsimp only; omega⟩
    · rw [f_X1_sidesAtLine_5e]
      unfold f_X1_sidesAtLine_5c
      rw [bq, if_neg e, dv_bn2 (il_0 l), if_pos rfl, e60]
    · rw [f_X12_currents_31e]
      unfold f_X12_currents_31c
      rw [dv_bn2 q_many, if_neg (by omega), dv_bn2 (ml_0 (c3.symm.trans l)), if_pos rfl, e96]
  · have s1 : ∀ z : Int, (u = 0 → z = 0) → (u ≠ 0 → z = V (A 4) 0 i) → f_X1_sidesAtLine_5b (V, A 4, y, u, n, i) = if dv_add (V (A 4) 4 i) z = y then .inl (V, A 4, y, u, n + V (A 4) 0 i, i + 1) else .inl (V, A 4, y, u, n, i + 1) := fun z z0 z1 => by
      rw [f_X1_sidesAtLine_5e]
      unfold f_X1_sidesAtLine_5c
      rw [bq, if_neg e, dv_bn2 (il_1 i0 (by omega) l), if_neg (by decide), bq]
      by_cases w : u = 0
      · rw [if_pos w, e45, z0 w]
      · rw [if_neg w, bq, e45, z1 w]
    have s2 : ∀ z : Int, (u = 0 → z = 0) → (u ≠ 0 → z = V (A 4) 0 i) → f_X12_currents_31b (W, a, y, p, n, i) = if dv_add (V (A 4) 4 i) z = y then .inl (W, a, y, p, n + V (A 4) 0 i, i + 1) else .inl (W, a, y, p, n, i + 1) := fun z z0 z1 => by
      rw [f_X12_currents_31e]
      unfold f_X12_currents_31c
      rw [dv_bn2 q_many, if_neg (by omega), dv_bn2 (ml_1 (fun w => l (c3.trans w))), if_neg (by decide), bq, bq, ← c4]
      by_cases w : p = 0
      · rw [if_neg (fun g => g w), e78, z0 (hu.mpr w)]
      · rw [if_pos w, bq, bq, e78, ← c0, z1 (fun g => w (hu.mp g))]
    obtain ⟨z, z0, z1⟩ : ∃ z : Int, (u = 0 → z = 0) ∧ (u ≠ 0 → z = V (A 4) 0 i) := by
      by_cases w : u = 0
      · exact ⟨0, fun _ => rfl, fun g => absurd w g⟩
      · exact ⟨_, fun g => absurd g w, fun _ => rfl⟩
    rw [s1 z z0 z1, s2 z z0 z1]
    by_cases w : dv_add (V (A 4) 4 i) z = y
    · rw [if_pos w, if_pos w]
      exact ⟨_, _, rfl, rfl, ⟨n + V (A 4) 0 i, i + 1, rfl, rfl, by omega, by omega, by omega, by omega⟩, by dsimp only; omega⟩
    · rw [if_neg w, if_neg w]
      exact ⟨_, _, rfl, rfl, ⟨n, i + 1, rfl, rfl, by omega, by omega, n0, by omega⟩, by dsimp only; omega⟩
theorem L_currents (h : RR A a V W) : ∃ u, f_X11_currents V (A 0) y p = (u, ()) ∧ f_X12_currents W a y p = (u, ()) := by
  obtain ⟨g0, g1, -⟩ := RR_G h
  obtain ⟨kk, e7, e8, e9, e10, e50, e51, e52, ec⟩ := RR_n h
  have cl : f_X11_currents V (A 0) y p = if (0 ≤ y ∧ y ≤ V (A 4) 9 0) ∧ 0 ≤ p ∧ p ≤ 1 then dv_lp f_X12_currents_31b (W, a, y, p, 0, 0) else (-1, ()) := by
    unfold f_X11_currents
    by_cases y0 : y < 0
    · rw [if_pos y0, if_neg (by omega)]
    rw [if_neg y0, bq, g0, bq, g1, bq]
    by_cases y1 : V (A 4) 9 0 < y
    · rw [if_pos y1, if_neg (by omega)]
    rw [if_neg y1]
    by_cases p0 : p < 0
    · rw [if_pos p0, if_neg (by omega)]
    rw [if_neg p0]
    by_cases p1 : p ≤ 1
    · rw [if_pos p1, if_pos (by omega), bq, bq, g1]
      by_cases w : p = 1
      · rw [if_neg (fun g => g w)]
        unfold f_X11_currents_47 f_X1_sidesAtLine
        rw [bq2, cu_sim (p := p) h (by omega)]
      · rw [if_pos w]
        unfold f_X11_currents_47 f_X1_sidesAtLine
        rw [bq2, cu_sim (p := p) h (by omega)]
    · rw [if_neg p1, if_neg (by omega)]
  have mo : f_X12_currents W a y p = if (0 ≤ y ∧ y ≤ V (A 4) 9 0) ∧ 0 ≤ p ∧ p ≤ 1 then dv_lp f_X12_currents_31b (W, a, y, p, 0, 0) else (-1, ()) := by
    unfold f_X12_currents
    rw [bq]
    by_cases y0 : 0 ≤ y ∧ y ≤ W a 2 68
    · rw [dv_bn2 (li_1 y0), if_neg (by decide)]
      by_cases p0 : 0 ≤ p ∧ p ≤ 1
      · rw [dv_bn2 (li_1 p0), if_pos (by decide), if_pos (by omega)]
      · rw [dv_bn2 (li_0 p0), if_neg (fun w => w rfl), if_neg (by omega)]
    · rw [dv_bn2 (li_0 y0), if_pos rfl, if_neg (by omega)]
  rw [cl, mo]
  by_cases w : (0 ≤ y ∧ y ≤ V (A 4) 9 0) ∧ 0 ≤ p ∧ p ≤ 1
  · rw [if_pos w]; exact ⟨_, rfl, rfl⟩
  · rw [if_neg w]; exact ⟨_, rfl, rfl⟩
theorem L_alike (h : RR A a V W) : ∃ u, f_X11_alike V (A 0) = (u, ()) ∧ f_X12_alike W a = (u, ()) := by
  obtain ⟨g0, g1, -⟩ := RR_G h
  obtain ⟨kk, e7, e8, e9, e10, e50, e51, e52, ec⟩ := RR_n h
  have h7 : V (A 4) 7 0 ≤ 9 := kk.1.1.2
  have key : dv_lp f_X1_twosOfOneSide_4b (V, A 4, 0, 0) = dv_lp f_X12_alike_4b (W, a, 0, 0) := by
    refine dv_sim (Q := fun r t => r = t) (R := fun s t => ∃ (n i : Int), s = (V, A 4, n, i) ∧ t = (W, a, n, i) ∧ 0 ≤ i ∧ i ≤ 9 ∧ 0 ≤ n ∧ n ≤ 9 * i) (m := fun s => (9 - s.2.2.2).toNat) ?_ _ _ ⟨0, 0, rfl, rfl, by decide, by decide, by decide, by decide⟩
    rintro s t ⟨n, i, rfl, rfl, i0, i9, n0, n9⟩
    rw [f_X1_twosOfOneSide_4e, f_X12_alike_4e]
    unfold f_X1_twosOfOneSide_4c f_X12_alike_4c
    rw [bq, dv_bn2 q_many]
    by_cases e : V (A 4) 7 0 ≤ i
    · rw [if_pos e, if_pos (by omega)]
      exact Or.inr ⟨_, _, rfl, rfl, rfl⟩
    rw [if_neg e, if_neg (by omega), bq, bq]
    left
    have inner := dv_sim (b := f_X1_twosOfOneSide_16b) (d := f_X12_alike_16b) (Q := fun r t => ∃ n' : Int, r = .inl (V, A 4, n', i + 1) ∧ t = .inl (W, a, n', i + 1) ∧ 0 ≤ n' ∧ n' ≤ n + 9) (R := fun s t => ∃ (n' j : Int), s = (V, A 4, i, n', j) ∧ t = (W, a, i, n', j) ∧ 0 ≤ j ∧ j ≤ 9 ∧ 0 ≤ n' ∧ n' ≤ n + j) (m := fun s => (9 - s.2.2.2.2).toNat) (by
      rintro s t ⟨n', j, rfl, rfl, j0, j9, m0, m9⟩
      have e61 : ∀ z : Int, f_X1_twosOfOneSide_61 V (A 4) i j n' z = .inl (V, A 4, i, dv_add n' z, j + 1) := fun z => by
        unfold f_X1_twosOfOneSide_61
        rw [bq, bq]
      have e67 : ∀ z : Int, f_X12_alike_67 W a i j n' z = .inl (W, a, i, dv_add n' z, j + 1) := fun z => by
        unfold f_X12_alike_67
        rw [bq, bq]
      have a0 : dv_add n' 0 = n' := by rw [dv_add_ok (by omega) (by omega) (by omega) (by omega) (by omega) (by omega), Int.add_zero]
      have a1 : dv_add n' 1 = n' + 1 := dv_add_ok (by omega) (by omega) (by omega) (by omega) (by omega) (by omega)
      have e60 : f_X1_twosOfOneSide_60 V (A 4) i j n' = .inl (V, A 4, i, n', j + 1) := by
        unfold f_X1_twosOfOneSide_60
        rw [e61, a0]
      have e66 : f_X12_alike_66 W a i j n' = .inl (W, a, i, n', j + 1) := by
        unfold f_X12_alike_66
        rw [e67, a0]
      rw [f_X1_twosOfOneSide_16e, f_X12_alike_16e]
      unfold f_X1_twosOfOneSide_16c f_X12_alike_16c
      rw [bq, dv_bn2 q_many]
      by_cases f : V (A 4) 7 0 ≤ j
      · rw [if_pos f, if_pos (by omega), bq, bq]
        exact Or.inr ⟨_, _, rfl, rfl, n', rfl, rfl, m0, by omega⟩
      left
      obtain ⟨c0, -, -, c3, -⟩ := ec i i0 (by omega)
      obtain ⟨d0, -, -, d3, -⟩ := ec j j0 (by omega)
      rw [if_neg f, if_neg (by omega)]
      have fin0 : ∃ (s' : dV × Int × Int × Int × Int) (t' : dV × Int × Int × Int × Int), f_X1_twosOfOneSide_60 V (A 4) i j n' = .inl s' ∧ f_X12_alike_66 W a i j n' = .inl t' ∧ (∃ (n'' j' : Int), s' = (V, A 4, i, n'', j') ∧ t' = (W, a, i, n'', j') ∧ 0 ≤ j' ∧ j' ≤ 9 ∧ 0 ≤ n'' ∧ n'' ≤ n + j') ∧ (9 - s'.2.2.2.2).toNat < (9 - j).toNat := ⟨_, _, e60, e66, ⟨n', j + 1, rfl, rfl, by omega, by omega, m0, by omega⟩, by dsimp only; omega⟩
      by_cases l : V (A 4) 3 i = -1
      · rw [dv_bn2 (il_0 l), if_pos rfl, dv_bn2 (ml_0 (c3.symm.trans l)), if_pos rfl]
        exact fin0
      rw [dv_bn2 (il_1 i0 (by omega) l), if_neg (by decide), dv_bn2 (ml_1 (fun w => l (c3.trans w))), if_neg (by decide)]
      by_cases l2 : V (A 4) 3 j = -1
      · rw [dv_bn2 (il_0 l2), if_pos rfl, dv_bn2 (ml_0 (d3.symm.trans l2)), if_pos rfl]
        exact fin0
      rw [dv_bn2 (il_1 j0 (by omega) l2), if_neg (by decide), dv_bn2 (ml_1 (fun w => l2 (d3.trans w))), if_neg (by decide), bq, bq, bq, bq, bq, bq, ← c0, ← d0]
      by_cases w : V (A 4) 0 i = V (A 4) 0 j
      · rw [if_neg (fun g => g w), if_neg (fun g => g w), e61, e67, a1]
        exact ⟨_, _, rfl, rfl, ⟨n' + 1, j + 1, rfl, rfl, by omega, by omega, by omega, by omega⟩, by dsimp only; omega⟩
      · rw [if_pos w, if_pos w]
        exact fin0) (V, A 4, i, n, i + 1) (W, a, i, n, i + 1) ⟨n, i + 1, rfl, rfl, by omega, by omega, n0, by omega⟩
    obtain ⟨n', q1, q2, q3, q4⟩ := inner
    exact ⟨_, _, q1, q2, ⟨n', i + 1, rfl, rfl, by omega, by omega, q3, by omega⟩, by dsimp only; omega⟩
  unfold f_X11_alike f_X12_alike f_X1_twosOfOneSide
  rw [bq, g0, bq, g1, bq2, key]
  exact ⟨_, rfl, rfl⟩
end QTZ
section QUA
variable {V V' U W W' : dV} {a x y c p q m r s fl w h : Int} {A : Nat → Int} {i : Nat}
theorem and_1z : dv_and p 1 = 0 ↔ qb p 0 = false := by
  rw [qb_and0]
  constructor
  · intro h
    have h0 := h 0 (by decide)
    have h1 : qb 1 0 = true := qb_1 ⟨0, by decide⟩
    cases hq : qb p 0 with
    | false => rfl
    | true => exact absurd ⟨hq, h1⟩ h0
  · intro h i hi w
    have h1 := qb_1 ⟨i, hi⟩
    simp only at h1
    rw [h1] at w
    have e : i = 0 := by simpa using w.2
    subst e
    rw [h] at w
    cases w.1
/-- a floor's rows emptied -/
theorem q_fill0 : ∃ V' : dV, f_J7_fill_53178_Frows V fl 0 = (V', 0) ∧ (∀ b j z, ¬ (b = fl ∧ j = 6) → V' b j z = V b j z) ∧ ∀ z, 0 ≤ z → z < 12 → V' fl 6 z = 0 := by
  unfold f_J7_fill_53178_Frows
  rw [bq]
  refine dv_inv (b := f_J7_fill_53178_Frows_5b) (P := fun q => ∃ (W : dV) (j : Int), q = (W, 12, fl, 0, j) ∧ 0 ≤ j ∧ j ≤ 12 ∧ (∀ b k z, ¬ (b = fl ∧ k = 6) → W b k z = V b k z) ∧ ∀ z, 0 ≤ z → z < j → W fl 6 z = 0) (Q := fun q => ∃ V' : dV, q = (V', 0) ∧ (∀ b j z, ¬ (b = fl ∧ j = 6) → V' b j z = V b j z) ∧ ∀ z, 0 ≤ z → z < 12 → V' fl 6 z = 0) (m := fun q => (12 - q.2.2.2.2).toNat) ?_ _ ⟨V, 0, rfl, by decide, by decide, fun _ _ _ _ => rfl, fun z z0 z1 => absurd z1 (by omega)⟩
  rintro q ⟨W, j, rfl, j0, j1, hf, hz⟩
  rw [f_J7_fill_53178_Frows_5e]
  unfold f_J7_fill_53178_Frows_5c
  by_cases e : 12 ≤ j
  · rw [if_pos e]
    exact Or.inr ⟨_, rfl, W, rfl, hf, fun z z0 z1 => hz z z0 (by omega)⟩
  · rw [if_neg e, bq, bq]
    refine Or.inl ⟨_, rfl, ⟨_, j + 1, rfl, by omega, by omega, fun b k z g => ?_, fun z z0 z1 => ?_⟩, by dsimp only; omega⟩
    · unfold dv_u
      rw [if_neg (fun q => g ⟨q.1, q.2.1⟩)]
      exact hf b k z g
    · unfold dv_u
      by_cases g : z = j
      · rw [if_pos ⟨rfl, rfl, g⟩]
      · rw [if_neg (fun q => g q.2.2)]
        exact hz z z0 (by omega)
/-- a carpet's rows -/
theorem q_orow (hs : 0 ≤ U fl 0 c ∧ U fl 0 c ≤ 12) (hy : 0 ≤ U fl 4 c ∧ U fl 4 c ≤ 12) : ∃ U' : dV, dv_lp f_X1_drawRows_54b (U, m, fl, c, U fl 4 c) = Sum.inl (U', fl, c + 1) ∧ (∀ b j z, ¬ (b = fl ∧ j = 6) → U' b j z = U b j z) ∧ ∀ z, z < 12 → U' fl 6 z = if U fl 4 c ≤ z ∧ z < U fl 4 c + U fl 0 c then dv_or (U fl 6 z) m else U fl 6 z := by
  refine dv_inv (b := f_X1_drawRows_54b) (P := fun q => ∃ (W : dV) (j : Int), q = (W, m, fl, c, j) ∧ U fl 4 c ≤ j ∧ j ≤ U fl 4 c + U fl 0 c ∧ (∀ b k z, ¬ (b = fl ∧ k = 6) → W b k z = U b k z) ∧ ∀ z, z < 12 → W fl 6 z = if U fl 4 c ≤ z ∧ z < j then dv_or (U fl 6 z) m else U fl 6 z) (Q := fun q => ∃ U' : dV, q = Sum.inl (U', fl, c + 1) ∧ (∀ b j z, ¬ (b = fl ∧ j = 6) → U' b j z = U b j z) ∧ ∀ z, z < 12 → U' fl 6 z = if U fl 4 c ≤ z ∧ z < U fl 4 c + U fl 0 c then dv_or (U fl 6 z) m else U fl 6 z) (m := fun q => (U fl 4 c + U fl 0 c - q.2.2.2.2).toNat) ?_ _ ⟨U, U fl 4 c, rfl, by omega, by omega, fun _ _ _ _ => rfl, fun z z1 => by rw [if_neg (by omega)]⟩
  rintro q ⟨W, j, rfl, j0, j1, hf, hz⟩
  have e4 : W fl 4 c = U fl 4 c := hf fl 4 c (fun w => absurd w.2 (by decide))
  have e0 : W fl 0 c = U fl 0 c := hf fl 0 c (fun w => absurd w.2 (by decide))
  have fin : (U fl 4 c + U fl 0 c ≤ j ∨ 12 ≤ j) → ∃ U' : dV, f_X1_drawRows_93 W fl c = Sum.inl (U', fl, c + 1) ∧ (∀ b j z, ¬ (b = fl ∧ j = 6) → U' b j z = U b j z) ∧ ∀ z, z < 12 → U' fl 6 z = if U fl 4 c ≤ z ∧ z < U fl 4 c + U fl 0 c then dv_or (U fl 6 z) m else U fl 6 z := fun g => by
    refine ⟨W, ?_, hf, fun z z1 => ?_⟩
    · unfold f_X1_drawRows_93
      rw [bq]
    · rw [hz z z1]
      by_cases w : U fl 4 c ≤ z ∧ z < j
      · rw [if_pos w, if_pos (by omega)]
      · rw [if_neg w, if_neg (by omega)]
  rw [f_X1_drawRows_54e]
  unfold f_X1_drawRows_54c
  rw [bq, bq, bq, e4, e0, dv_add_ok (by omega) (by omega) (by omega) (by omega) (by omega) (by omega)]
  by_cases g : U fl 4 c + U fl 0 c ≤ j
  · rw [if_pos g]
    exact Or.inr ⟨_, rfl, fin (Or.inl g)⟩
  rw [if_neg g]
  by_cases g2 : 12 ≤ j
  · rw [if_pos g2]
    exact Or.inr ⟨_, rfl, fin (Or.inr g2)⟩
  rw [if_neg g2, bq, bq, bq, bq]
  refine Or.inl ⟨_, rfl, ⟨_, j + 1, rfl, by omega, by omega, fun b k z w => ?_, fun z z1 => ?_⟩, by dsimp only; omega⟩
  · unfold dv_u
    rw [if_neg (fun q => w ⟨q.1, q.2.1⟩)]
    exact hf b k z w
  · unfold dv_u
    by_cases w : z = j
    · rw [if_pos ⟨rfl, rfl, w⟩, if_pos (by omega), hz j (by omega), if_neg (by omega), w]
    · rw [if_neg (fun q => w q.2.2), hz z z1]
      by_cases w2 : U fl 4 c ≤ z ∧ z < j
      · rw [if_pos w2, if_pos (by omega)]
      · rw [if_neg w2, if_neg (by omega)]
/-- the covered cells as bits -/
theorem q_draw (hb : fb (V fl)) : ∃ V' : dV, f_X1_drawRows V fl = (V', 0) ∧ (∀ b j z, ¬ (b = fl ∧ j = 6) → V' b j z = V b j z) ∧ ∀ py : Int, 0 ≤ py → py < 12 → ∀ i : Nat, i < 32 → (qb (V' fl 6 py) i = true ↔ cvd (V fl) (V fl 7 0) (i : Int) py) := by
  obtain ⟨V5, r1, f1, z1⟩ := q_fill0 (V := V) (fl := fl)
  unfold f_X1_drawRows
  rw [dv_bn2 r1]
  refine dv_inv (b := f_X1_drawRows_10b) (P := fun q => ∃ (U : dV) (j : Int), q = (U, fl, j) ∧ 0 ≤ j ∧ j ≤ V fl 7 0 ∧ (∀ b k z, ¬ (b = fl ∧ k = 6) → U b k z = V b k z) ∧ ∀ py : Int, 0 ≤ py → py < 12 → ∀ i : Nat, i < 32 → (qb (U fl 6 py) i = true ↔ cvd (V fl) j (i : Int) py)) (Q := fun q => ∃ V' : dV, q = (V', 0) ∧ (∀ b j z, ¬ (b = fl ∧ j = 6) → V' b j z = V b j z) ∧ ∀ py : Int, 0 ≤ py → py < 12 → ∀ i : Nat, i < 32 → (qb (V' fl 6 py) i = true ↔ cvd (V fl) (V fl 7 0) (i : Int) py)) (m := fun q => (V fl 7 0 - q.2.2).toNat) ?_ _ ⟨V5, 0, rfl, by decide, hb.1.1, f1, fun py p0 p1 i hi => by rw [z1 py p0 p1, qb_0]; exact ⟨fun w => (by cases w), fun ⟨c, c0, c1, _⟩ => absurd c1 (by omega)⟩⟩
  rintro q ⟨U, j, rfl, j0, j1, hf, hz⟩
  have e7 : U fl 7 0 = V fl 7 0 := hf fl 7 0 (fun w => absurd w.2 (by decide))
  have e0 : U fl 0 j = V fl 0 j := hf fl 0 j (fun w => absurd w.2 (by decide))
  have e3 : U fl 3 j = V fl 3 j := hf fl 3 j (fun w => absurd w.2 (by decide))
  have e4 : U fl 4 j = V fl 4 j := hf fl 4 j (fun w => absurd w.2 (by decide))
  rw [f_X1_drawRows_10e]
  unfold f_X1_drawRows_10c
  rw [bq, e7]
  by_cases e : V fl 7 0 ≤ j
  · rw [if_pos e]
    refine Or.inr ⟨_, rfl, U, rfl, hf, ?_⟩
    rw [show V fl 7 0 = j by omega]
    exact hz
  rw [if_neg e]
  have hc := hb.2.2.2 j j0 (by omega)
  have hs : ∀ (px py : Int), cvd (V fl) (j + 1) px py ↔ cvd (V fl) j px py ∨ cov (V fl) j px py := fun px py => by
    constructor
    · rintro ⟨c, c0, c1, w⟩
      by_cases wc : c = j
      · subst wc; exact Or.inr w
      · exact Or.inl ⟨c, c0, by omega, w⟩
    · rintro (⟨c, c0, c1, w⟩ | w)
      · exact ⟨c, c0, by omega, w⟩
      · exact ⟨j, j0, by omega, w⟩
  by_cases l : V fl 3 j = -1
  · rw [dv_bn2 (il_0 (e3.trans l)), if_neg (fun w => w rfl)]
    refine Or.inl ⟨(U, fl, j + 1), ?_, ⟨U, j + 1, rfl, by omega, by omega, hf, fun py p0 p1 i hi => ?_⟩, by dsimp only; omega⟩
    · unfold f_X1_drawRows_93
      rw [bq]
    · rw [hz py p0 p1 i hi, hs]
      exact ⟨Or.inl, fun w => w.resolve_right (fun g => g.1 l)⟩
  · have hp := hc.2.resolve_left l
    rw [dv_bn2 (il_1 j0 (by omega) (by rw [e3]; exact l)), if_pos (by decide), bq, bq, bq, bq, bq, bq]
    obtain ⟨U', r2, f2, g2⟩ := q_orow (U := U) (fl := fl) (c := j) (m := mk (U fl 0 j) (U fl 3 j)) (by rw [e0]; exact hc.1) (by rw [e4]; omega)
    refine Or.inl ⟨_, r2, ⟨U', j + 1, rfl, by omega, by omega, fun b k z w => (f2 b k z w).trans (hf b k z w), fun py p0 p1 i hi => ?_⟩, by dsimp only; omega⟩
    rw [g2 py p1, hs, e0, e3, e4]
    have hm := qb_mk (s := V fl 0 j) (x := V fl 3 j) (i := i) hc.1.1 hc.1.2 hp.1 hp.2.1 hi
    have hcj : cov (V fl) j (i : Int) py ↔ (V fl 3 j ≤ (i : Int) ∧ (i : Int) < V fl 3 j + V fl 0 j) ∧ V fl 4 j ≤ py ∧ py < V fl 4 j + V fl 0 j := by
      unfold cov
      constructor
      · rintro ⟨-, w1, w2, w3, w4⟩; exact ⟨⟨w1, w2⟩, w3, w4⟩
      · rintro ⟨⟨w1, w2⟩, w3, w4⟩; exact ⟨l, w1, w2, w3, w4⟩
    by_cases wy : V fl 4 j ≤ py ∧ py < V fl 4 j + V fl 0 j
    · rw [if_pos wy, qb_or, Bool.or_eq_true, hz py p0 p1 i hi, hm, hcj]
      exact ⟨fun w => w.imp id (fun g => ⟨g, wy⟩), fun w => w.imp id (fun g => g.1)⟩
    · rw [if_neg wy, hz py p0 p1 i hi]
      exact ⟨Or.inl, fun w => w.resolve_right (fun g => wy (hcj.mp g).2)⟩
/-- the first cell of a hall of which C doesn't hold -/
def fb1 (C : Int → Int → Prop) (w h r : Int) : Prop := (r = -1 ∧ ∀ px py, 0 ≤ px → px < w → 0 ≤ py → py < h → C px py) ∨ ∃ px py : Int, r = 12 * py + px ∧ (0 ≤ px ∧ px < w) ∧ (0 ≤ py ∧ py < h) ∧ ¬ C px py ∧ ∀ qx qy, 0 ≤ qx → qx < w → 0 ≤ qy → qy < h → (qy < py ∨ (qy = py ∧ qx < px)) → C qx qy
theorem fb1_u {C : Int → Int → Prop} {r' : Int} (h1 : fb1 C w h r) (h2 : fb1 C w h r') : r = r' := by
  rcases h1 with ⟨rfl, k1⟩ | ⟨px, py, rfl, ⟨x0, x1⟩, ⟨y0, y1⟩, n1, k1⟩
  · rcases h2 with ⟨rfl, -⟩ | ⟨qx, qy, rfl, ⟨u0, u1⟩, ⟨v0, v1⟩, n2, -⟩
    · rfl
    · exact absurd (k1 qx qy u0 u1 v0 v1) n2
  · rcases h2 with ⟨rfl, k2⟩ | ⟨qx, qy, rfl, ⟨u0, u1⟩, ⟨v0, v1⟩, n2, k2⟩
    · exact absurd (k2 px py x0 x1 y0 y1) n1
    · by_cases e1 : qy < py ∨ (qy = py ∧ qx < px)
      · exact absurd (k1 qx qy u0 u1 v0 v1 e1) n2
      · by_cases e2 : py < qy ∨ (py = qy ∧ px < qx)
        · exact absurd (k2 px py x0 x1 y0 y1 e2) n1
        · omega
theorem q_fbc (hb : fb (V fl)) : ∃ (V' : dV) (r : Int), f_X1_firstBareCell V fl = (V', r) ∧ fb1 (cvd (V fl) (V fl 7 0)) (V fl 8 0) (V fl 9 0) r := by
  obtain ⟨U, r1, f1, g1⟩ := q_draw hb
  have e8 : U fl 8 0 = V fl 8 0 := f1 fl 8 0 (fun w => absurd w.2 (by decide))
  have e9 : U fl 9 0 = V fl 9 0 := f1 fl 9 0 (fun w => absurd w.2 (by decide))
  obtain ⟨-, ⟨w0, w1⟩, ⟨h0, h1⟩, -⟩ := hb
  unfold f_X1_firstBareCell
  rw [dv_bn2 r1]
  refine dv_inv (b := f_X1_firstBareCell_6b) (P := fun q => ∃ j : Int, q = (U, fl, j) ∧ 0 ≤ j ∧ j ≤ 144 ∧ ∀ px py, 0 ≤ px → px < V fl 8 0 → 0 ≤ py → py < V fl 9 0 → 12 * py + px < j → cvd (V fl) (V fl 7 0) px py) (Q := fun q => ∃ (V' : dV) (r : Int), q = (V', r) ∧ fb1 (cvd (V fl) (V fl 7 0)) (V fl 8 0) (V fl 9 0) r) (m := fun q => (144 - q.2.2).toNat) ?_ _ ⟨0, rfl, by decide, by decide, fun px py _ _ _ _ _ => by omega⟩
  rintro q ⟨j, rfl, j0, j1, hz⟩
  rw [f_X1_firstBareCell_6e]
  unfold f_X1_firstBareCell_6c
  by_cases e : 144 ≤ j
  · rw [if_pos e]
    exact Or.inr ⟨_, rfl, U, -1, rfl, Or.inl ⟨rfl, fun px py x0 x1 y0 y1 => hz px py x0 x1 y0 y1 (by omega)⟩⟩
  rw [if_neg e, bq, bq, bq, e8]
  have e54 : f_X1_firstBareCell_54 U fl j = Sum.inl (U, fl, j + 1) := by
    unfold f_X1_firstBareCell_54
    rw [bq]
  have step : (∀ px py, 0 ≤ px → px < V fl 8 0 → 0 ≤ py → py < V fl 9 0 → 12 * py + px = j → cvd (V fl) (V fl 7 0) px py) → ∃ t, f_X1_firstBareCell_54 U fl j = Sum.inl t ∧ (∃ j : Int, t = (U, fl, j) ∧ 0 ≤ j ∧ j ≤ 144 ∧ ∀ px py, 0 ≤ px → px < V fl 8 0 → 0 ≤ py → py < V fl 9 0 → 12 * py + px < j → cvd (V fl) (V fl 7 0) px py) ∧ (144 - t.2.2).toNat < (144 - j).toNat := fun g => ⟨_, e54, ⟨j + 1, rfl, by omega, by omega, fun px py x0 x1 y0 y1 k => by
    by_cases k2 : 12 * py + px = j
    · exact g px py x0 x1 y0 y1 k2
    · exact hz px py x0 x1 y0 y1 (by omega)⟩, by dsimp only; omega⟩
  by_cases k8 : V fl 8 0 ≤ j % 12
  · rw [if_pos k8]
    exact Or.inl (step (fun px py x0 x1 y0 y1 k => by omega))
  rw [if_neg k8, bq, e9]
  by_cases k9 : V fl 9 0 ≤ j / 12
  · rw [if_pos k9]
    exact Or.inl (step (fun px py x0 x1 y0 y1 k => by omega))
  rw [if_neg k9, bq, bq, bq]
  have hg := g1 (j / 12) (by omega) (by omega) (j % 12).toNat (by omega)
  rw [show (((j % 12).toNat : Nat) : Int) = j % 12 by omega] at hg
  have ha : dv_and (dv_shr (U fl 6 (j / 12)) (j % 12)) 1 = 0 ↔ ¬ cvd (V fl) (V fl 7 0) (j % 12) (j / 12) := by
    rw [and_1z, qb_shr (by omega) (by omega), ← hg, Bool.not_eq_true]
  by_cases k : dv_and (dv_shr (U fl 6 (j / 12)) (j % 12)) 1 = 0
  · rw [if_neg (fun g => g k)]
    exact Or.inr ⟨_, rfl, U, j, rfl, Or.inr ⟨j % 12, j / 12, by omega, by omega, by omega, ha.mp k, fun qx qy u0 u1 v0 v1 d => hz qx qy u0 u1 v0 v1 (by omega)⟩⟩
  · rw [if_pos k]
    refine Or.inl (step (fun px py x0 x1 y0 y1 d => ?_))
    have d1 : px = j % 12 := by omega
    have d2 : py = j / 12 := by omega
    rw [d1, d2]
    exact Classical.byContradiction (fun g => k (ha.mpr g))
/-- the reference's first bare cell -/
theorem q_mfb {C : Int → Int → Prop} (hw : w ≤ 12) (hh : h ≤ 12) (hC : ∀ px py : Int, 0 ≤ px → px < w → 0 ≤ py → py < h → (qb (W a 29 py) px.toNat = true ↔ C px py)) : ∃ r : Int, f_X12_firstBare W a w h = (r, ()) ∧ fb1 C w h r := by
  unfold f_X12_firstBare
  refine dv_inv (b := f_X12_firstBare_2b) (P := fun q => ∃ j : Int, q = (W, a, w, h, j) ∧ 0 ≤ j ∧ ∀ px py, 0 ≤ px → px < w → 0 ≤ py → py < h → py < j → C px py) (Q := fun q => ∃ r : Int, q = (r, ()) ∧ fb1 C w h r) (m := fun q => (h - q.2.2.2.2).toNat) ?_ _ ⟨0, rfl, by decide, fun px py _ _ _ _ _ => by omega⟩
  rintro q ⟨j, rfl, j0, hz⟩
  rw [f_X12_firstBare_2e]
  unfold f_X12_firstBare_2c
  by_cases e : h ≤ j
  · rw [if_pos e]
    exact Or.inr ⟨_, rfl, -1, rfl, Or.inl ⟨rfl, fun px py x0 x1 y0 y1 => hz px py x0 x1 y0 y1 (by omega)⟩⟩
  rw [if_neg e]
  have inner : (∃ t, dv_lp f_X12_firstBare_10b (W, a, w, h, j, 0) = Sum.inl t ∧ t = (W, a, w, h, j + 1) ∧ ∀ px, 0 ≤ px → px < w → C px j) ∨ ∃ r, dv_lp f_X12_firstBare_10b (W, a, w, h, j, 0) = Sum.inr (r, ()) ∧ fb1 C w h r := by
    refine dv_inv (b := f_X12_firstBare_10b) (P := fun q => ∃ k : Int, q = (W, a, w, h, j, k) ∧ 0 ≤ k ∧ ∀ px, 0 ≤ px → px < w → px < k → C px j) (Q := fun q => (∃ t, q = Sum.inl t ∧ t = (W, a, w, h, j + 1) ∧ ∀ px, 0 ≤ px → px < w → C px j) ∨ ∃ r, q = Sum.inr (r, ()) ∧ fb1 C w h r) (m := fun q => (w - q.2.2.2.2.2).toNat) ?_ _ ⟨0, rfl, by decide, fun px _ _ _ => by omega⟩
    rintro q ⟨k, rfl, k0, hk⟩
    rw [f_X12_firstBare_10e]
    unfold f_X12_firstBare_10c
    by_cases g : w ≤ k
    · rw [if_pos g, bq]
      exact Or.inr ⟨_, rfl, Or.inl ⟨_, rfl, rfl, fun px x0 x1 => hk px x0 x1 (by omega)⟩⟩
    rw [if_neg g, bq, dv_bn2 (q_isIn k0 (by omega))]
    have hc := hC k j k0 (by omega) j0 (by omega)
    by_cases b : qb (W a 29 j) k.toNat = true
    · rw [if_pos b, if_pos (by decide), bq]
      refine Or.inl ⟨_, rfl, ⟨k + 1, rfl, by omega, fun px x0 x1 x2 => ?_⟩, by dsimp only; omega⟩
      by_cases d : px = k
      · rw [d]; exact hc.mp b
      · exact hk px x0 x1 (by omega)
    · rw [if_neg b, if_neg (fun g => g rfl), bq, bq]
      exact Or.inr ⟨_, rfl, Or.inr ⟨_, rfl, Or.inr ⟨k, j, rfl, ⟨k0, by omega⟩, ⟨j0, by omega⟩, fun d => b (hc.mpr d), fun qx qy u0 u1 v0 v1 d => by
        rcases d with d | ⟨rfl, d⟩
        · exact hz qx qy u0 u1 v0 v1 d
        · exact hk qx u0 u1 d⟩⟩⟩
  rcases inner with ⟨t, t1, rfl, t3⟩ | ⟨r, t1, t2⟩
  · rw [t1]
    refine Or.inl ⟨_, rfl, ⟨j + 1, rfl, by omega, fun px py x0 x1 y0 y1 d => ?_⟩, by dsimp only; omega⟩
    by_cases d2 : py = j
    · rw [d2]; exact t3 px x0 x1
    · exact hz px py x0 x1 y0 y1 (by omega)
  · rw [t1]
    exact Or.inr ⟨_, rfl, r, rfl, t2⟩
end QUA
end
section
section QUB
variable {V V' U W W' : dV} {a x y c p q m r s fl w h : Int} {A : Nat → Int} {i : Nat}
/-- the reference's covered cells, as the class's floor has them -/
theorem RR_cover (h : RR A a V W) : ∃ U : dV, f_X12_laysCovered W a = (U, 0) ∧ (∀ b j z, ¬ (b = a ∧ j = 29) → U b j z = W b j z) ∧ ∀ py : Int, 0 ≤ py → py < 12 → ∀ i : Nat, i < 32 → (qb (U a 29 py) i = true ↔ cvd (V (A 4)) (V (A 4) 7 0) (i : Int) py) := by
  have e : ef (V (A 4)) (kf (W a 2) 0) := h.2.2.1.1.1
  obtain ⟨kk, e7, -⟩ := RR_n h
  obtain ⟨-, -, -, -, ⟨hf, hk⟩, hi⟩ := RR_JX h
  have hK := kf_at hf hk hi.2
  have hKb := hK.1
  obtain ⟨U, c1, c2, c3⟩ := q_covered (V := W) (a := a) hKb (fun d d0 d1 hd => by
    have h1 := hK.2.2.2.1 d d0 (by simp only [kf, Int.zero_add]; exact d1) (by simp only [kf, Int.zero_add]; exact hd)
    have h2 := hKb.2.1.2
    have h3 := hKb.2.2.1.2
    simp only [kf, Int.zero_add] at h1 h2 h3
    omega) hK.2.1
  refine ⟨U, c1, c2, fun py p0 p1 i hi => ?_⟩
  rw [c3 py p0 p1 i hi, e7]
  have h9 : W a 2 69 ≤ 9 := by rw [← e7]; exact kk.1.1.2
  constructor
  · rintro ⟨c, k0, k1, k2⟩; exact ⟨c, k0, k1, (ef_cov e k0 (by omega)).mpr k2⟩
  · rintro ⟨c, k0, k1, k2⟩; exact ⟨c, k0, k1, (ef_cov e k0 (by omega)).mp k2⟩
theorem L_bare (h : RR A a V W) : ∃ V' W' u, f_X11_bare V (A 0) p = (V', u) ∧ f_X12_bare W a p = (W', u) := by
  obtain ⟨g0, g1, -⟩ := RR_G h
  obtain ⟨kk, e7, e8, e9, -⟩ := RR_n h
  unfold f_X11_bare
  rw [bq, g0, bq, g1]
  by_cases p0 : p = 0
  · obtain ⟨t, t1, t2, -⟩ := RR_bare h
    refine ⟨V, W, t, ?_, ?_⟩
    · rw [if_neg (fun g => g p0), dv_bn2 t1]
    · unfold f_X12_bare
      rw [dv_bn2 (li_1 (by omega)), if_pos (by decide), if_neg (fun g => g p0), dv_bn2 t2]
  rw [if_pos p0]
  obtain ⟨V1, r, r1, r2⟩ := q_fbc (V := V) (fl := A 4) kk.1
  obtain ⟨U, u1, u2, u3⟩ := RR_cover h
  have b8 := kk.1.2.1
  have b9 := kk.1.2.2.1
  obtain ⟨r', r3, r4⟩ := q_mfb (W := U) (a := a) (w := W a 2 67) (h := W a 2 68) (C := cvd (V (A 4)) (V (A 4) 7 0)) (by omega) (by omega) (fun px py x0 x1 y0 y1 => by
    have := u3 py y0 (by omega) px.toNat (by omega)
    rw [show ((px.toNat : Nat) : Int) = px by omega] at this
    exact this)
  rw [e8, e9] at r2
  have er := fb1_u r2 r4
  subst er
  have m67 : U a 2 67 = W a 2 67 := u2 a 2 67 (fun g => absurd g.2 (by decide))
  have m68 : U a 2 68 = W a 2 68 := u2 a 2 68 (fun g => absurd g.2 (by decide))
  rw [dv_bn2 r1]
  by_cases pi : 0 ≤ p ∧ p ≤ 2
  case neg =>
    refine ⟨V1, W, -1, ?_, ?_⟩
    · by_cases k : r = -1
      · rw [if_neg (fun g => g k)]
      · rw [if_pos k, if_pos (by omega), if_pos (by omega)]
    · unfold f_X12_bare
      rw [dv_bn2 (li_0 pi), if_neg (fun g => g rfl)]
  have mo : f_X12_bare W a p = if r = -1 then (U, -1) else if p = 1 then (U, r % 12) else (U, r / 12) := by
    unfold f_X12_bare
    rw [dv_bn2 (li_1 pi), if_pos (by decide), if_pos p0, dv_bn2 u1, bq, bq, m67, m68, dv_bn2 r3]
    by_cases k : r = -1
    · rw [if_neg (fun g => g k), if_pos k]
    · rw [if_pos k, if_neg k]
      by_cases k1 : p = 1
      · rw [if_neg (fun g => g k1), if_pos k1, bq]
      · rw [if_pos k1, if_neg k1, bq]
  rw [mo]
  by_cases k : r = -1
  · rw [if_neg (fun g => g k), if_pos k]
    exact ⟨_, _, _, rfl, rfl⟩
  rw [if_pos k, if_neg k]
  by_cases k1 : p = 1
  · rw [if_neg (fun g => g k1), if_pos k1, bq]
    exact ⟨_, _, _, rfl, rfl⟩
  · rw [if_pos k1, if_neg k1, if_neg (show ¬ p ≠ 2 from fun g => g (by omega)), bq]
    exact ⟨_, _, _, rfl, rfl⟩
-- places for a side
theorem qb_shi (j0 : 0 ≤ q) (j1 : q.toNat + i < 32) : qb (dv_shr p q) i = qb p (q.toNat + i) := by
  unfold qb dv_shr
  have h := sm_32 ⟨q.toNat, by omega⟩
  simp only [show ((q.toNat : Nat) : Int) = q by omega] at h
  rw [Int32.ofInt_toInt, Int32.toBitVec_shiftRight]
  unfold BitVec.sshiftRight'
  rw [h, BitVec.getLsbD_sshiftRight]
  have e1 : (!decide (32 ≤ i)) = true := by simp; omega
  rw [e1, if_pos j1, Bool.true_and]
theorem sq_all : ∀ s : Fin 13, ∀ i : Fin 32, qb (dv_sub (dv_shl 1 (s.1 : Int)) 1) i.1 = decide (i.1 < s.1) := by decide +kernel
theorem qb_sq (s0 : 0 ≤ s) (s1 : s ≤ 12) (hi : i < 32) : qb (dv_sub (dv_shl 1 s) 1) i = decide ((i : Int) < s) := by
  have h := sq_all ⟨s.toNat, by omega⟩ ⟨i, hi⟩
  simp only [show ((s.toNat : Nat) : Int) = s by omega] at h
  rw [h]
  congr 1
  apply propext
  omega
theorem qs_sw {g : Nat → Nat → Int} {n k : Nat} : qs (fun i => qs (fun j => g i j) n) k = qs (fun j => qs (fun i => g i j) k) n := by
  have hadd : ∀ (f1 f2 : Nat → Int) (n : Nat), qs (fun j => f1 j + f2 j) n = qs f1 n + qs f2 n := fun f1 f2 n => by
    induction n with
    | zero => rfl
    | succ n ih => unfold qs; rw [ih]; omega
  have h0 : ∀ n : Nat, qs (fun _ => (0 : Int)) n = 0 := fun n => by
    induction n with
    | zero => rfl
    | succ n ih => unfold qs; rw [ih]; rfl
  induction k with
  | zero =>
    show 0 = qs (fun j => qs (fun i => g i j) 0) n
    exact (h0 n).symm
  | succ k ih =>
    show qs (fun i => qs (fun j => g i j) n) k + qs (fun j => g k j) n = qs (fun j => qs (fun i => g i j) k + g k j) n
    rw [ih, hadd]
theorem qs_z {f : Nat → Int} {n k : Nat} (hk : n ≤ k) (h : ∀ i, n ≤ i → i < k → f i = 0) : qs f k = qs f n := by
  induction k with
  | zero => rw [show n = 0 by omega]
  | succ k ih =>
    by_cases e : n = k + 1
    · rw [e]
    · show qs f k + f k = qs f n
      rw [ih (by omega) (fun i h1 h2 => h i h1 (by omega)), h k (by omega) (by omega), Int.add_zero]
/-- no cell of the square is covered -/
def fpl (C : Int → Int → Prop) (s x y : Int) : Prop := ∀ px py, x ≤ px → px < x + s → y ≤ py → py < y + s → ¬ C px py
/-- whether there is a place -/
noncomputable def fpg (C : Int → Int → Prop) (s w h x y : Int) : Int := @ite Int (x + s ≤ w ∧ y + s ≤ h ∧ fpl C s x y) (Classical.propDecidable _) 1 0
theorem fpg_1 {C : Int → Int → Prop} (k : x + s ≤ w ∧ y + s ≤ h ∧ fpl C s x y) : fpg C s w h x y = 1 := by
  unfold fpg
  rw [if_pos k]
theorem fpg_0 {C : Int → Int → Prop} (k : ¬ (x + s ≤ w ∧ y + s ≤ h ∧ fpl C s x y)) : fpg C s w h x y = 0 := by
  unfold fpg
  rw [if_neg k]
theorem fpg_b {C : Int → Int → Prop} : 0 ≤ fpg C s w h x y ∧ fpg C s w h x y ≤ 1 := by
  by_cases k : x + s ≤ w ∧ y + s ≤ h ∧ fpl C s x y
  · rw [fpg_1 k]; decide
  · rw [fpg_0 k]; decide
theorem fpg_s {C : Int → Int → Prop} {n : Nat} : 0 ≤ qs (fun x => fpg C s w h (x : Int) y) n ∧ qs (fun x => fpg C s w h (x : Int) y) n ≤ n := by
  have := qs_b (f := fun x : Nat => fpg C s w h (x : Int) y) (n := n) (k := 1) (fun _ _ => fpg_b)
  omega
theorem fpg_t {C : Int → Int → Prop} {n : Nat} : 0 ≤ qs (fun x => fpg C s w h x (y : Int)) 0 ∧ 0 ≤ qs (fun y => qs (fun x => fpg C s w h (x : Int) (y : Int)) 12) n ∧ qs (fun y => qs (fun x => fpg C s w h (x : Int) (y : Int)) 12) n ≤ 12 * n := by
  refine ⟨by unfold qs; decide, ?_⟩
  exact qs_b (fun y _ => by
    have := fpg_s (C := C) (s := s) (w := w) (h := h) (y := (y : Int)) (n := 12)
    exact ⟨this.1, this.2⟩)
theorem fpg_zx {C : Int → Int → Prop} {k : Nat} (hk : k ≤ 12) (e : w < (k : Int) + s) : qs (fun x => fpg C s w h (x : Int) y) 12 = qs (fun x => fpg C s w h (x : Int) y) k := qs_z hk (fun i h1 _ => fpg_0 (fun g => by omega))
theorem fpg_z0 {C : Int → Int → Prop} (e : h < y + s) : qs (fun x => fpg C s w h (x : Int) y) 12 = 0 := (qs_z (n := 0) (by decide) (fun i _ _ => fpg_0 (fun g => by omega))).trans rfl
theorem fpg_zy {C : Int → Int → Prop} {k : Nat} (hk : k ≤ 12) (e : h < (k : Int) + s) : qs (fun y => qs (fun x => fpg C s w h (x : Int) (y : Int)) 12) 12 = qs (fun y => qs (fun x => fpg C s w h (x : Int) (y : Int)) 12) k := qs_z hk (fun i h1 _ => fpg_z0 (by omega))
/-- the class: one row's places -/
theorem q_pl70 {C : Int → Int → Prop} {N : Int} (hs : 1 ≤ s ∧ s ≤ 12) (hw : U fl 8 0 = w) (w12 : 0 ≤ w ∧ w ≤ 12) (hN : 0 ≤ N ∧ N ≤ 144) (r0 : 0 ≤ r) (rh : r + s ≤ h) (hc : ∀ b : Nat, b < 32 → (qb m b = true ↔ ∃ z, r ≤ z ∧ z < r + s ∧ C (b : Int) z)) : dv_lp f_X1_placesFor_70b (U, dv_sub (dv_shl 1 s) 1, fl, s, r, m, N, 0) = Sum.inr (Sum.inl (U, dv_sub (dv_shl 1 s) 1, fl, s, N + qs (fun x => fpg C s w h (x : Int) r) 12, r + 1)) := by
  refine dv_inv (b := f_X1_placesFor_70b) (P := fun q => ∃ k : Nat, q = (U, dv_sub (dv_shl 1 s) 1, fl, s, r, m, N + qs (fun x => fpg C s w h (x : Int) r) k, (k : Int)) ∧ k ≤ 12) (Q := fun q => q = Sum.inr (Sum.inl (U, dv_sub (dv_shl 1 s) 1, fl, s, N + qs (fun x => fpg C s w h (x : Int) r) 12, r + 1))) (m := fun q => (12 - q.2.2.2.2.2.2.2).toNat) ?_ _ ⟨0, by show _ = (U, _, fl, s, r, m, N + 0, ((0 : Nat) : Int)); rw [Int.add_zero]; rfl, by decide⟩
  rintro q ⟨k, rfl, k12⟩
  have hb := fpg_s (C := C) (s := s) (w := w) (h := h) (y := r) (n := k)
  have e97 : ∀ z : Int, f_X1_placesFor_97 U (dv_sub (dv_shl 1 s) 1) fl s r m (k : Int) (N + qs (fun x => fpg C s w h (x : Int) r) k) z = Sum.inl (U, dv_sub (dv_shl 1 s) 1, fl, s, r, m, dv_add (N + qs (fun x => fpg C s w h (x : Int) r) k) z, (k : Int) + 1) := fun z => by
    unfold f_X1_placesFor_97
    rw [bq, bq]
  rw [f_X1_placesFor_70e]
  unfold f_X1_placesFor_70c
  rw [bq, bq, hw]
  by_cases e : w < (k : Int) + s
  · rw [if_pos e, bq]
    refine Or.inr ⟨_, rfl, ?_⟩
    rw [fpg_zx k12 e]
  rw [if_neg e, bq, bq]
  have key : dv_and (dv_shr m (k : Int)) (dv_sub (dv_shl 1 s) 1) = 0 ↔ fpl C s (k : Int) r := by
    rw [qb_and0]
    constructor
    · intro g px py x0 x1 y0 y1 hcc
      have g1 := g (px - k).toNat (by omega)
      rw [qb_shi (by omega) (by omega), qb_sq (by omega) hs.2 (by omega)] at g1
      refine g1 ⟨?_, by simp; omega⟩
      rw [show (k : Int).toNat + (px - k).toNat = px.toNat by omega]
      refine (hc px.toNat (by omega)).mpr ⟨py, y0, y1, ?_⟩
      rw [show ((px.toNat : Nat) : Int) = px by omega]
      exact hcc
    · intro g b hb2 g1
      have g2 := g1.2
      rw [qb_sq (by omega) hs.2 hb2] at g2
      have g3 : (b : Int) < s := by simpa using g2
      have g4 := g1.1
      rw [qb_shi (by omega) (by omega)] at g4
      obtain ⟨z, z0, z1, z2⟩ := (hc _ (by omega)).mp g4
      exact g _ z (by omega) (by omega) z0 z1 z2
  by_cases g : dv_and (dv_shr m (k : Int)) (dv_sub (dv_shl 1 s) 1) = 0
  · rw [if_neg (fun g2 => g2 g), e97, dv_add_ok (by omega) (by omega) (by omega) (by omega) (by decide) (by decide)]
    refine Or.inl ⟨_, rfl, ⟨k + 1, ?_, by omega⟩, by dsimp only; omega⟩
    show _ = (U, _, fl, s, r, m, N + (qs (fun x => fpg C s w h (x : Int) r) k + fpg C s w h (k : Int) r), ((k + 1 : Nat) : Int))
    rw [fpg_1 ⟨by omega, rh, key.mp g⟩, Int.natCast_succ, Int.add_assoc]
  · rw [if_pos g, e97, dv_add_ok (by omega) (by omega) (by omega) (by omega) (by decide) (by decide), Int.add_zero]
    refine Or.inl ⟨_, rfl, ⟨k + 1, ?_, by omega⟩, by dsimp only; omega⟩
    show _ = (U, _, fl, s, r, m, N + (qs (fun x => fpg C s w h (x : Int) r) k + fpg C s w h (k : Int) r), ((k + 1 : Nat) : Int))
    rw [fpg_0 (fun g2 => g (key.mpr g2.2.2)), Int.natCast_succ, Int.add_zero]
theorem q_places (hb : fb (V fl)) (hs : 1 ≤ s ∧ s ≤ 12) : ∃ V' : dV, f_X1_placesFor V fl s = (V', qs (fun y => qs (fun x => fpg (cvd (V fl) (V fl 7 0)) s (V fl 8 0) (V fl 9 0) (x : Int) (y : Int)) 12) 12) := by
  obtain ⟨U, r1, f1, g1⟩ := q_draw hb
  have e8 : U fl 8 0 = V fl 8 0 := f1 fl 8 0 (fun w => absurd w.2 (by decide))
  have e9 : U fl 9 0 = V fl 9 0 := f1 fl 9 0 (fun w => absurd w.2 (by decide))
  obtain ⟨-, hw, hh, -⟩ := hb
  generalize cvd (V fl) (V fl 7 0) = C at g1 ⊢
  generalize V fl 8 0 = w at e8 hw ⊢
  generalize V fl 9 0 = h at e9 hh ⊢
  unfold f_X1_placesFor
  rw [dv_bn2 r1, bq, bq]
  refine dv_inv (b := f_X1_placesFor_15b) (P := fun q => ∃ k : Nat, q = (U, dv_sub (dv_shl 1 s) 1, fl, s, qs (fun y => qs (fun x => fpg C s w h (x : Int) (y : Int)) 12) k, (k : Int)) ∧ k ≤ 12) (Q := fun q => ∃ V' : dV, q = (V', qs (fun y => qs (fun x => fpg C s w h (x : Int) (y : Int)) 12) 12)) (m := fun q => (12 - q.2.2.2.2.2).toNat) ?_ _ ⟨0, rfl, by decide⟩
  rintro q ⟨k, rfl, k12⟩
  have hn := (fpg_t (C := C) (s := s) (w := w) (h := h) (y := 0) (n := k)).2
  rw [f_X1_placesFor_15e]
  unfold f_X1_placesFor_15c
  rw [bq, bq, e9]
  by_cases e : h < (k : Int) + s
  · rw [if_pos e]
    exact Or.inr ⟨_, rfl, U, by rw [fpg_zy k12 e]⟩
  rw [if_neg e]
  have L33 : dv_lp f_X1_placesFor_33b (U, dv_sub (dv_shl 1 s) 1, fl, s, qs (fun y => qs (fun x => fpg C s w h (x : Int) (y : Int)) 12) k, (k : Int), 0, (k : Int)) = Sum.inl (U, dv_sub (dv_shl 1 s) 1, fl, s, qs (fun y => qs (fun x => fpg C s w h (x : Int) (y : Int)) 12) k + qs (fun x => fpg C s w h (x : Int) (k : Int)) 12, (k : Int) + 1) := by
    refine dv_inv (b := f_X1_placesFor_33b) (P := fun q => ∃ (v j : Int), q = (U, dv_sub (dv_shl 1 s) 1, fl, s, qs (fun y => qs (fun x => fpg C s w h (x : Int) (y : Int)) 12) k, (k : Int), v, j) ∧ (k : Int) ≤ j ∧ j ≤ (k : Int) + s ∧ ∀ b : Nat, b < 32 → (qb v b = true ↔ ∃ z, (k : Int) ≤ z ∧ z < j ∧ C (b : Int) z)) (Q := fun q => q = Sum.inl (U, dv_sub (dv_shl 1 s) 1, fl, s, qs (fun y => qs (fun x => fpg C s w h (x : Int) (y : Int)) 12) k + qs (fun x => fpg C s w h (x : Int) (k : Int)) 12, (k : Int) + 1)) (m := fun q => ((k : Int) + s - q.2.2.2.2.2.2.2).toNat) ?_ _ ⟨0, (k : Int), rfl, by omega, by omega, fun b hb => by rw [qb_0]; exact ⟨fun g => (by cases g), fun ⟨z, z0, z1, _⟩ => absurd z1 (by omega)⟩⟩
    rintro q ⟨v, j, rfl, j0, j1, hv⟩
    have fin : j = (k : Int) + s → f_X1_placesFor_67 U (dv_sub (dv_shl 1 s) 1) fl s (qs (fun y => qs (fun x => fpg C s w h (x : Int) (y : Int)) 12) k) (k : Int) v = Sum.inr (Sum.inl (U, dv_sub (dv_shl 1 s) 1, fl, s, qs (fun y => qs (fun x => fpg C s w h (x : Int) (y : Int)) 12) k + qs (fun x => fpg C s w h (x : Int) (k : Int)) 12, (k : Int) + 1)) := fun ej => by
      unfold f_X1_placesFor_67
      rw [ej] at hv
      exact q_pl70 hs e8 hw (by omega) (by omega) (by omega) hv
    rw [f_X1_placesFor_33e]
    unfold f_X1_placesFor_33c
    rw [bq]
    by_cases g : (k : Int) + s ≤ j
    · rw [if_pos g, fin (by omega)]
      exact Or.inr ⟨_, rfl, rfl⟩
    rw [if_neg g, if_neg (show ¬ 12 ≤ j by omega), bq, bq, bq]
    refine Or.inl ⟨_, rfl, ⟨_, j + 1, rfl, by omega, by omega, fun b hb => ?_⟩, by dsimp only; omega⟩
    rw [qb_or, Bool.or_eq_true, hv b hb, g1 j (by omega) (by omega) b hb]
    constructor
    · rintro (⟨z, z0, z1, z2⟩ | z2)
      · exact ⟨z, z0, by omega, z2⟩
      · exact ⟨j, j0, by omega, z2⟩
    · rintro ⟨z, z0, z1, z2⟩
      by_cases ez : z = j
      · rw [ez] at z2; exact Or.inr z2
      · exact Or.inl ⟨z, z0, by omega, z2⟩
  rw [L33]
  exact Or.inl ⟨_, rfl, ⟨k + 1, rfl, by omega⟩, by dsimp only; omega⟩
/-- the reference's places -/
theorem q_mpl {C : Int → Int → Prop} (hs : 1 ≤ s ∧ s ≤ 12) (hw : W a 2 67 = w) (hh : W a 2 68 = h) (w12 : 0 ≤ w ∧ w ≤ 12) (h12 : 0 ≤ h ∧ h ≤ 12) (hc : ∀ py : Int, 0 ≤ py → py < 12 → ∀ i : Nat, i < 32 → (qb (W a 29 py) i = true ↔ C (i : Int) py)) : dv_lp f_X12_fitting_17b (W, a, s, 0, 0) = (W, qs (fun x => qs (fun y => fpg C s w h (x : Int) (y : Int)) 12) 12) := by
  have hbd : ∀ (x : Int) (n : Nat), 0 ≤ qs (fun y => fpg C s w h x (y : Int)) n ∧ qs (fun y => fpg C s w h x (y : Int)) n ≤ n := fun x n => by
    have := qs_b (f := fun y : Nat => fpg C s w h x (y : Int)) (n := n) (k := 1) (fun _ _ => fpg_b)
    omega
  refine dv_inv (b := f_X12_fitting_17b) (P := fun q => ∃ k : Nat, q = (W, a, s, qs (fun x => qs (fun y => fpg C s w h (x : Int) (y : Int)) 12) k, (k : Int)) ∧ k ≤ 12) (Q := fun q => q = (W, qs (fun x => qs (fun y => fpg C s w h (x : Int) (y : Int)) 12) 12)) (m := fun q => (12 - q.2.2.2.2).toNat) ?_ _ ⟨0, rfl, by decide⟩
  rintro q ⟨k, rfl, k12⟩
  have hn := qs_b (f := fun x : Nat => qs (fun y : Nat => fpg C s w h (x : Int) (y : Int)) 12) (n := k) (k := 12) (fun x _ => ⟨(hbd x 12).1, (hbd x 12).2⟩)
  rw [f_X12_fitting_17e]
  unfold f_X12_fitting_17c
  rw [bq, hw]
  by_cases e : w ≤ (k : Int)
  · rw [if_pos e]
    refine Or.inr ⟨_, rfl, ?_⟩
    rw [qs_z k12 (fun i i0 i1 => (qs_z (n := 0) (by decide) (fun j _ _ => fpg_0 (fun g => by omega))).trans rfl)]
  rw [if_neg e]
  have L31 : dv_lp f_X12_fitting_31b (W, a, s, (k : Int), qs (fun x => qs (fun y => fpg C s w h (x : Int) (y : Int)) 12) k, 0) = Sum.inl (W, a, s, qs (fun x => qs (fun y => fpg C s w h (x : Int) (y : Int)) 12) k + qs (fun y => fpg C s w h (k : Int) (y : Int)) 12, (k : Int) + 1) := by
    refine dv_inv (b := f_X12_fitting_31b) (P := fun q => ∃ j : Nat, q = (W, a, s, (k : Int), qs (fun x => qs (fun y => fpg C s w h (x : Int) (y : Int)) 12) k + qs (fun y => fpg C s w h (k : Int) (y : Int)) j, (j : Int)) ∧ j ≤ 12) (Q := fun q => q = Sum.inl (W, a, s, qs (fun x => qs (fun y => fpg C s w h (x : Int) (y : Int)) 12) k + qs (fun y => fpg C s w h (k : Int) (y : Int)) 12, (k : Int) + 1)) (m := fun q => (12 - q.2.2.2.2.2).toNat) ?_ _ ⟨0, by show _ = (W, a, s, (k : Int), _ + 0, ((0 : Nat) : Int)); rw [Int.add_zero]; rfl, by decide⟩
    rintro q ⟨j, rfl, j12⟩
    have hj := hbd (k : Int) j
    have e74 : ∀ z : Int, f_X12_fitting_74 W a s (k : Int) (j : Int) (qs (fun x => qs (fun y => fpg C s w h (x : Int) (y : Int)) 12) k + qs (fun y => fpg C s w h (k : Int) (y : Int)) j) z = Sum.inl (W, a, s, (k : Int), dv_add (qs (fun x => qs (fun y => fpg C s w h (x : Int) (y : Int)) 12) k + qs (fun y => fpg C s w h (k : Int) (y : Int)) j) z, (j : Int) + 1) := fun z => by
      unfold f_X12_fitting_74
      rw [bq, bq]
    rw [f_X12_fitting_31e]
    unfold f_X12_fitting_31c
    rw [bq, hh]
    by_cases g : h ≤ (j : Int)
    · rw [if_pos g, bq]
      refine Or.inr ⟨_, rfl, ?_⟩
      rw [qs_z (f := fun y : Nat => fpg C s w h (k : Int) (y : Int)) j12 (fun i i0 i1 => fpg_0 (fun g2 => by omega))]
    rw [if_neg g, bq, bq, hw]
    obtain ⟨t, t1, t2, t3⟩ := q_isFree (V := W) (a := a) (s := s) (x := (k : Int)) (y := (j : Int)) (w := w) (h := h) (by omega)
    rw [dv_bn2 t1]
    have key : t = 1 ↔ (k : Int) + s ≤ w ∧ (j : Int) + s ≤ h ∧ fpl C s (k : Int) (j : Int) := by
      rw [t3]
      constructor
      · rintro ⟨k1, k2, k3⟩
        refine ⟨k1, k2, fun px py x0 x1 y0 y1 hcc => ?_⟩
        have g1 := qb_and0.mp (k3 py y0 y1) px.toNat (by omega)
        refine g1 ⟨(hc py (by omega) (by omega) px.toNat (by omega)).mpr ?_, (qb_mk (by omega) hs.2 (by omega) (by omega) (by omega)).mpr (by omega)⟩
        rw [show ((px.toNat : Nat) : Int) = px by omega]
        exact hcc
      · rintro ⟨k1, k2, k3⟩
        refine ⟨k1, k2, fun z z0 z1 => qb_and0.mpr (fun i hi g1 => ?_)⟩
        have g2 := (qb_mk (s := s) (x := (k : Int)) (by omega) hs.2 (by omega) (by omega) hi).mp g1.2
        exact k3 (i : Int) z g2.1 g2.2 z0 z1 ((hc z (by omega) (by omega) i hi).mp g1.1)
    by_cases t0 : t = 0
    · rw [if_pos t0, e74, dv_add_ok (by omega) (by omega) (by omega) (by omega) (by decide) (by decide), Int.add_zero]
      refine Or.inl ⟨_, rfl, ⟨j + 1, ?_, by omega⟩, by dsimp only; omega⟩
      show _ = (W, a, s, (k : Int), _ + (qs (fun y => fpg C s w h (k : Int) (y : Int)) j + fpg C s w h (k : Int) (j : Int)), ((j + 1 : Nat) : Int))
      rw [fpg_0 (fun g2 => by have := key.mpr g2; omega), Int.natCast_succ, Int.add_zero]
    · rw [if_neg t0, e74, dv_add_ok (by omega) (by omega) (by omega) (by omega) (by decide) (by decide)]
      refine Or.inl ⟨_, rfl, ⟨j + 1, ?_, by omega⟩, by dsimp only; omega⟩
      show _ = (W, a, s, (k : Int), _ + (qs (fun y => fpg C s w h (k : Int) (y : Int)) j + fpg C s w h (k : Int) (j : Int)), ((j + 1 : Nat) : Int))
      rw [fpg_1 (key.mp (by omega)), Int.natCast_succ, Int.add_assoc]
  rw [L31]
  exact Or.inl ⟨_, rfl, ⟨k + 1, rfl, by omega⟩, by dsimp only; omega⟩
theorem L_fitting (h : RR A a V W) : ∃ V' W' u, f_X11_fitting V (A 0) p = (V', u) ∧ f_X12_fitting W a p = (W', u) := by
  obtain ⟨g0, g1, -⟩ := RR_G h
  obtain ⟨kk, e7, e8, e9, -⟩ := RR_n h
  by_cases hp : 1 ≤ p ∧ p ≤ 12
  case neg =>
    refine ⟨V, W, -1, ?_, ?_⟩
    · unfold f_X11_fitting
      by_cases k : p < 1
      · rw [if_pos k]
      · rw [if_neg k, if_neg (by omega)]
    · unfold f_X12_fitting
      rw [dv_bn2 (show f_X12_isSide W p = (0, ()) by rw [q_isSide, if_neg hp]), if_neg (fun g => g rfl)]
  obtain ⟨V1, r1⟩ := q_places (V := V) (fl := A 4) kk.1 hp
  obtain ⟨U, u1, u2, u3⟩ := RR_cover h
  have m67 : U a 2 67 = V (A 4) 8 0 := (u2 a 2 67 (fun g => absurd g.2 (by decide))).trans e8.symm
  have m68 : U a 2 68 = V (A 4) 9 0 := (u2 a 2 68 (fun g => absurd g.2 (by decide))).trans e9.symm
  have r2 := q_mpl (W := U) (a := a) hp m67 m68 kk.1.2.1 kk.1.2.2.1 u3
  refine ⟨V1, U, qs (fun y => qs (fun x => fpg (cvd (V (A 4)) (V (A 4) 7 0)) p (V (A 4) 8 0) (V (A 4) 9 0) (x : Int) (y : Int)) 12) 12, ?_, ?_⟩
  · unfold f_X11_fitting
    rw [if_neg (by omega), if_pos hp.2, bq, g0, bq, g1, dv_bn2 r1]
  · unfold f_X12_fitting
    rw [dv_bn2 (show f_X12_isSide W p = (1, ()) by rw [q_isSide, if_pos hp]), if_pos (by decide), dv_bn2 u1, r2, qs_sw]
end QUB
end
section
section QUC
variable {V V' U W W' : dV} {a x y c p q m r s fl w h : Int} {A : Nat → Int} {i : Nat} {φ : Nat → Int → Int} {P Q : Prop}
/-- one, if it holds -/
noncomputable def ip (P : Prop) : Int := @ite Int P (Classical.propDecidable P) 1 0
theorem ip_1 (k : P) : ip P = 1 := by
  unfold ip
  rw [if_pos k]
theorem ip_0 (k : ¬ P) : ip P = 0 := by
  unfold ip
  rw [if_neg k]
theorem ip_b : 0 ≤ ip P ∧ ip P ≤ 1 := by
  by_cases k : P
  · rw [ip_1 k]; decide
  · rw [ip_0 k]; decide
theorem ip_c (k : P ↔ Q) : ip P = ip Q := by rw [propext k]
theorem ip_if {d : Decidable P} : @ite Int P d 1 0 = ip P := by
  by_cases k : P
  · rw [if_pos k, ip_1 k]
  · rw [if_neg k, ip_0 k]
theorem qs_one {P : Nat → Prop} {n : Nat} (hu : ∀ i j, i < n → j < n → P i → P j → i = j) : qs (fun i => ip (P i)) n = ip (∃ i, i < n ∧ P i) := by
  induction n with
  | zero => exact (ip_0 (fun ⟨i, k, _⟩ => absurd k (by omega))).symm
  | succ n ih =>
    show qs (fun i => ip (P i)) n + ip (P n) = _
    rw [ih (fun i j hi hj => hu i j (by omega) (by omega))]
    by_cases h1 : ∃ i, i < n ∧ P i
    · have h2 : ¬ P n := fun k => by
        obtain ⟨i, hi, hp⟩ := h1
        have := hu i n (by omega) (by omega) hp k
        omega
      rw [ip_1 h1, ip_0 h2, ip_1 (by obtain ⟨i, hi, hp⟩ := h1; exact ⟨i, by omega, hp⟩)]
      rfl
    · by_cases h2 : P n
      · rw [ip_0 h1, ip_1 h2, ip_1 ⟨n, by omega, h2⟩]
        rfl
      · have h3 : ¬ ∃ i, i < n + 1 ∧ P i := fun ⟨i, hi, hp⟩ => by
          by_cases e : i = n
          · rw [e] at hp; exact h2 hp
          · exact h1 ⟨i, by omega, hp⟩
        rw [ip_0 h1, ip_0 h2, ip_0 h3]
        rfl
-- carpets with a corner at a point: left below, right below, left above, right above
def tA (φ : Nat → Int → Int) (x y c : Int) : Prop := φ 3 c ≠ -1 ∧ φ 3 c + φ 0 c = x ∧ φ 4 c + φ 0 c = y
def tB (φ : Nat → Int → Int) (x y c : Int) : Prop := φ 3 c ≠ -1 ∧ φ 3 c = x ∧ φ 4 c + φ 0 c = y
def tC (φ : Nat → Int → Int) (x y c : Int) : Prop := φ 3 c ≠ -1 ∧ φ 3 c + φ 0 c = x ∧ φ 4 c = y
def tD (φ : Nat → Int → Int) (x y c : Int) : Prop := φ 3 c ≠ -1 ∧ φ 3 c = x ∧ φ 4 c = y
def exN (φ : Nat → Int → Int) (P : Int → Prop) : Prop := ∃ i : Nat, i < (φ 7 0).toNat ∧ P (i : Int)
def K4 (φ : Nat → Int → Int) (x y : Int) : Prop := exN φ (tA φ x y) ∧ exN φ (tB φ x y) ∧ exN φ (tC φ x y) ∧ exN φ (tD φ x y)
theorem t_sd (hk : kgf φ) {i : Nat} (hi : i < (φ 7 0).toNat) : 1 ≤ φ 0 (i : Int) := (hk.2.2.1 i (by omega) (by omega)).1
theorem tA_c (hk : kgf φ) (hi : i < (φ 7 0).toNat) (t : tA φ x y (i : Int)) : cov φ (i : Int) (x - 1) (y - 1) := by
  have := t_sd hk hi
  obtain ⟨t1, t2, t3⟩ := t
  exact ⟨t1, by omega, by omega, by omega, by omega⟩
theorem tB_c (hk : kgf φ) (hi : i < (φ 7 0).toNat) (t : tB φ x y (i : Int)) : cov φ (i : Int) x (y - 1) := by
  have := t_sd hk hi
  obtain ⟨t1, t2, t3⟩ := t
  exact ⟨t1, by omega, by omega, by omega, by omega⟩
theorem tC_c (hk : kgf φ) (hi : i < (φ 7 0).toNat) (t : tC φ x y (i : Int)) : cov φ (i : Int) (x - 1) y := by
  have := t_sd hk hi
  obtain ⟨t1, t2, t3⟩ := t
  exact ⟨t1, by omega, by omega, by omega, by omega⟩
theorem tD_c (hk : kgf φ) (hi : i < (φ 7 0).toNat) (t : tD φ x y (i : Int)) : cov φ (i : Int) x y := by
  have := t_sd hk hi
  obtain ⟨t1, t2, t3⟩ := t
  exact ⟨t1, by omega, by omega, by omega, by omega⟩
theorem c_eq (hk : kgf φ) {i j : Nat} {px py : Int} (hi : i < (φ 7 0).toNat) (hj : j < (φ 7 0).toNat) (h1 : cov φ (i : Int) px py) (h2 : cov φ (j : Int) px py) : i = j := by
  have := hk.2.1 i j px py (by omega) (by omega) (by omega) (by omega) h1 h2
  omega
/-- four cells about a point, each covered by another carpet -/
theorem cr_k4 (hk : kgf φ) {j1 j2 j3 j4 : Nat} (ha : j1 < (φ 7 0).toNat) (hb : j2 < (φ 7 0).toNat) (hc : j3 < (φ 7 0).toNat) (hd : j4 < (φ 7 0).toNat) (ca : cov φ j1 (x - 1) (y - 1)) (cb : cov φ j2 x (y - 1)) (cc : cov φ j3 (x - 1) y) (cd : cov φ j4 x y) (n12 : j1 ≠ j2) (n13 : j1 ≠ j3) (n24 : j2 ≠ j4) (n34 : j3 ≠ j4) : K4 φ x y := by
  have fa : ∀ px py, cov φ j1 px py → cov φ j2 px py → False := fun px py u v => n12 (c_eq hk ha hb u v)
  have fb : ∀ px py, cov φ j1 px py → cov φ j3 px py → False := fun px py u v => n13 (c_eq hk ha hc u v)
  have fc : ∀ px py, cov φ j2 px py → cov φ j4 px py → False := fun px py u v => n24 (c_eq hk hb hd u v)
  have fd : ∀ px py, cov φ j3 px py → cov φ j4 px py → False := fun px py u v => n34 (c_eq hk hc hd u v)
  have ca' := ca
  have cb' := cb
  have cc' := cc
  have cd' := cd
  obtain ⟨a1, a2, a3, a4, a5⟩ := ca
  obtain ⟨b1, b2, b3, b4, b5⟩ := cb
  obtain ⟨c1, c2, c3, c4, c5⟩ := cc
  obtain ⟨d1, d2, d3, d4, d5⟩ := cd
  refine ⟨⟨j1, ha, a1, ?_, ?_⟩, ⟨j2, hb, b1, ?_, ?_⟩, ⟨j3, hc, c1, ?_, ?_⟩, ⟨j4, hd, d1, ?_, ?_⟩⟩
  · by_cases e : x < φ 3 j1 + φ 0 j1
    · exact absurd cb' (fun u => fa x (y - 1) ⟨a1, by omega, e, a4, a5⟩ u)
    · omega
  · by_cases e : y < φ 4 j1 + φ 0 j1
    · exact absurd cc' (fun u => fb (x - 1) y ⟨a1, a2, a3, by omega, e⟩ u)
    · omega
  · by_cases e : φ 3 j2 ≤ x - 1
    · exact absurd ca' (fun u => fa (x - 1) (y - 1) u ⟨b1, e, by omega, b4, b5⟩)
    · omega
  · by_cases e : y < φ 4 j2 + φ 0 j2
    · exact absurd cd' (fun u => fc x y ⟨b1, b2, b3, by omega, e⟩ u)
    · omega
  · by_cases e : x < φ 3 j3 + φ 0 j3
    · exact absurd cd' (fun u => fd x y ⟨c1, by omega, e, c4, c5⟩ u)
    · omega
  · by_cases e : φ 4 j3 ≤ y - 1
    · exact absurd ca' (fun u => fb (x - 1) (y - 1) u ⟨c1, c2, c3, e, by omega⟩)
    · omega
  · by_cases e : φ 3 j4 ≤ x - 1
    · exact absurd cc' (fun u => fd (x - 1) y u ⟨d1, e, by omega, d4, d5⟩)
    · omega
  · by_cases e : φ 4 j4 ≤ y - 1
    · exact absurd cb' (fun u => fc x (y - 1) u ⟨d1, d2, d3, e, by omega⟩)
    · omega
theorem ic_66 {r1 r2 r3 r4 : Int} : f_X12_isCross_66 V r4 r3 r2 r1 = (0, ()) := by
  unfold f_X12_isCross_66 f_X12_isCross_67
  rw [if_pos rfl]
theorem ic_67 {r1 r2 r3 r4 : Int} : f_X12_isCross_67 V r4 r3 r2 r1 1 = (if r1 ≠ r2 ∧ r1 ≠ r3 ∧ r1 ≠ r4 ∧ r2 ≠ r3 ∧ r2 ≠ r4 ∧ r3 ≠ r4 then 1 else 0, ()) := by
  unfold f_X12_isCross_67
  rw [if_neg (by decide)]
  by_cases h1 : r1 = r2
  · rw [if_pos h1, if_neg (fun g => g.1 h1)]
  rw [if_neg h1]
  by_cases h2 : r1 = r3
  · rw [if_pos h2, if_neg (fun g => g.2.1 h2)]
  rw [if_neg h2]
  by_cases h3 : r1 = r4
  · rw [if_pos h3, if_neg (fun g => g.2.2.1 h3)]
  rw [if_neg h3]
  by_cases h4 : r2 = r3
  · rw [if_pos h4, if_neg (fun g => g.2.2.2.1 h4)]
  rw [if_neg h4]
  by_cases h5 : r2 = r4
  · rw [if_pos h5, if_neg (fun g => g.2.2.2.2.1 h5)]
  rw [if_neg h5]
  by_cases h6 : r3 = r4
  · rw [if_pos h6, if_neg (fun g => g.2.2.2.2.2 h6)]
  rw [if_neg h6, if_pos ⟨h1, h2, h3, h4, h5, h6⟩]
/-- the reference's at, by the class's floor -/
def atp (φ : Nat → Int → Int) (x y r : Int) : Prop := (r = -1 ∧ ∀ i : Nat, i < (φ 7 0).toNat → ¬ cov φ (i : Int) x y) ∨ ∃ i : Nat, r = (i : Int) ∧ i < (φ 7 0).toNat ∧ cov φ (i : Int) x y
theorem RR_atp (h : RR A a V W) : ∃ r : Int, f_X12_at W a x y = (r, ()) ∧ atp (V (A 4)) x y r := by
  have e : ef (V (A 4)) (kf (W a 2) 0) := h.2.2.1.1.1
  obtain ⟨kk, e7, -⟩ := RR_n h
  obtain ⟨r, r1, r2⟩ := q_at (V := W) (a := a) (px := x) (py := y) (ef_fb e kk.1)
  refine ⟨r, r1, ?_⟩
  have n9 := kk.1.1.2
  rcases r2 with ⟨rfl, k⟩ | ⟨k0, k1, k2⟩
  · exact Or.inl ⟨rfl, fun i hi g => k i (by omega) (by omega) ((ef_cov e (by omega) (by omega)).mp g)⟩
  · exact Or.inr ⟨r.toNat, by omega, by omega, by rw [show ((r.toNat : Nat) : Int) = r by omega]; exact (ef_cov e k0 (by omega)).mpr k2⟩
theorem atp_c (hk : kgf φ) {j : Nat} (h : atp φ x y r) (hj : j < (φ 7 0).toNat) (hc : cov φ (j : Int) x y) : r = (j : Int) := by
  rcases h with ⟨-, k⟩ | ⟨i, rfl, hi, k⟩
  · exact absurd hc (k j hj)
  · rw [c_eq hk hi hj k hc]
theorem q_isCross (h : RR A a V W) (x0 : 0 ≤ x ∧ x ≤ 12) (y0 : 0 ≤ y ∧ y ≤ 12) : f_X12_isCross W a x y = (ip (K4 (V (A 4)) x y), ()) := by
  obtain ⟨kk, e7, -⟩ := RR_n h
  obtain ⟨r1, t1, q1⟩ := RR_atp (x := x - 1) (y := y - 1) h
  obtain ⟨r2, t2, q2⟩ := RR_atp (x := x) (y := y - 1) h
  obtain ⟨r3, t3, q3⟩ := RR_atp (x := x - 1) (y := y) h
  obtain ⟨r4, t4, q4⟩ := RR_atp (x := x) (y := y) h
  have sx : dv_sub x 1 = x - 1 := dv_sub_ok (by omega) (by omega) (by omega) (by omega) (by decide) (by decide)
  have sy : dv_sub y 1 = y - 1 := dv_sub_ok (by omega) (by omega) (by omega) (by omega) (by decide) (by decide)
  have val : f_X12_isCross W a x y = (if (r1 ≠ -1 ∧ r2 ≠ -1 ∧ r3 ≠ -1 ∧ r4 ≠ -1) ∧ r1 ≠ r2 ∧ r1 ≠ r3 ∧ r1 ≠ r4 ∧ r2 ≠ r3 ∧ r2 ≠ r4 ∧ r3 ≠ r4 then 1 else 0, ()) := by
    unfold f_X12_isCross
    rw [bq, bq, sx, sy, dv_bn2 t1, bq, dv_bn2 t2, bq, dv_bn2 t3, dv_bn2 t4]
    by_cases h1 : r1 = -1
    · rw [if_pos h1, ic_66, if_neg (fun g => g.1.1 h1)]
    rw [if_neg h1]
    by_cases h2 : r2 = -1
    · rw [if_pos h2, ic_66, if_neg (fun g => g.1.2.1 h2)]
    rw [if_neg h2]
    by_cases h3 : r3 = -1
    · rw [if_pos h3, ic_66, if_neg (fun g => g.1.2.2.1 h3)]
    rw [if_neg h3]
    by_cases h4 : r4 = -1
    · rw [if_pos h4, ic_66, if_neg (fun g => g.1.2.2.2 h4)]
    rw [if_neg h4, ic_67]
    by_cases h5 : r1 ≠ r2 ∧ r1 ≠ r3 ∧ r1 ≠ r4 ∧ r2 ≠ r3 ∧ r2 ≠ r4 ∧ r3 ≠ r4
    · rw [if_pos h5, if_pos ⟨⟨h1, h2, h3, h4⟩, h5⟩]
    · rw [if_neg h5, if_neg (fun g => h5 g.2)]
  rw [val, ip_if]
  congr 1
  apply ip_c
  constructor
  · rintro ⟨⟨h1, h2, h3, h4⟩, n12, n13, n14, n23, n24, n34⟩
    obtain ⟨j1, rfl, l1, c1⟩ := q1.resolve_left (fun g => h1 g.1)
    obtain ⟨j2, rfl, l2, c2⟩ := q2.resolve_left (fun g => h2 g.1)
    obtain ⟨j3, rfl, l3, c3⟩ := q3.resolve_left (fun g => h3 g.1)
    obtain ⟨j4, rfl, l4, c4⟩ := q4.resolve_left (fun g => h4 g.1)
    exact cr_k4 kk l1 l2 l3 l4 c1 c2 c3 c4 (by omega) (by omega) (by omega) (by omega)
  · rintro ⟨⟨j1, l1, m1⟩, ⟨j2, l2, m2⟩, ⟨j3, l3, m3⟩, ⟨j4, l4, m4⟩⟩
    have e1 := atp_c kk q1 l1 (tA_c kk l1 m1)
    have e2 := atp_c kk q2 l2 (tB_c kk l2 m2)
    have e3 := atp_c kk q3 l3 (tC_c kk l3 m3)
    have e4 := atp_c kk q4 l4 (tD_c kk l4 m4)
    have s1 := t_sd kk l1
    have s2 := t_sd kk l2
    have s3 := t_sd kk l3
    obtain ⟨-, a2, a3⟩ := m1
    obtain ⟨-, b2, b3⟩ := m2
    obtain ⟨-, c2, c3⟩ := m3
    obtain ⟨-, d2, d3⟩ := m4
    have n12 : j1 ≠ j2 := fun g => by subst g; omega
    have n13 : j1 ≠ j3 := fun g => by subst g; omega
    have n14 : j1 ≠ j4 := fun g => by subst g; omega
    have n23 : j2 ≠ j3 := fun g => by subst g; omega
    have n24 : j2 ≠ j4 := fun g => by subst g; omega
    have n34 : j3 ≠ j4 := fun g => by subst g; omega
    exact ⟨⟨by omega, by omega, by omega, by omega⟩, by omega, by omega, by omega, by omega, by omega, by omega⟩
/-- what a point's three other corners count -/
theorem tm_150 {N z : Int} : f_X1_threeMoreMeetAt_150 V fl x y c N z = Sum.inl (V, fl, x, y, dv_add N z, c + 1) := by
  unfold f_X1_threeMoreMeetAt_150 f_X1_threeMoreMeetAt_152
  rw [bq, bq]
theorem tm_112 {N b1 b2 b3 b4 : Int} : f_X1_threeMoreMeetAt_112 V b3 b2 b1 fl x y N c b4 = Sum.inl (V, fl, x, y, dv_add N (if (b1 ≠ 0 ∧ b3 ≠ 0) ∨ (b1 ≠ 0 ∧ b4 ≠ 0) ∨ (b2 ≠ 0 ∧ b3 ≠ 0) then 1 else 0), c + 1) := by
  unfold f_X1_threeMoreMeetAt_112 f_X1_threeMoreMeetAt_125 f_X1_threeMoreMeetAt_135 f_X1_threeMoreMeetAt_145 f_X1_threeMoreMeetAt_149
  by_cases h1 : b1 = 0 <;> by_cases h2 : b2 = 0 <;> by_cases h3 : b3 = 0 <;> by_cases h4 : b4 = 0 <;> simp [h1, h2, h3, h4, tm_150]
theorem tm_86 {N b1 b2 : Int} {b3 : Int} : f_X1_threeMoreMeetAt_86 V b2 b1 fl x y N c b3 = Sum.inl (V, fl, x, y, dv_add N (if (b1 ≠ 0 ∧ b3 ≠ 0) ∨ (b1 ≠ 0 ∧ dv_add (V fl 4 c) (V fl 0 c) = y) ∨ (b2 ≠ 0 ∧ b3 ≠ 0) then 1 else 0), c + 1) := by
  unfold f_X1_threeMoreMeetAt_86
  rw [bq, bq, bq]
  by_cases k : dv_add (V fl 4 c) (V fl 0 c) = y
  · rw [if_neg (fun g => g k), tm_112]
    simp [k]
  · rw [if_pos k, tm_112]
    simp [k]
theorem tm_68 {N b1 b2 : Int} : f_X1_threeMoreMeetAt_68 V b1 fl x y N c b2 = Sum.inl (V, fl, x, y, dv_add N (if (b1 ≠ 0 ∧ V fl 4 c = y) ∨ (b1 ≠ 0 ∧ dv_add (V fl 4 c) (V fl 0 c) = y) ∨ (b2 ≠ 0 ∧ V fl 4 c = y) then 1 else 0), c + 1) := by
  unfold f_X1_threeMoreMeetAt_68
  rw [bq]
  by_cases k : V fl 4 c = y
  · rw [if_neg (fun g => g k), tm_86]
    simp [k]
  · rw [if_pos k, tm_86]
    simp [k]
theorem tm_42 {N b1 : Int} : f_X1_threeMoreMeetAt_42 V fl x y N c b1 = Sum.inl (V, fl, x, y, dv_add N (if (b1 ≠ 0 ∧ V fl 4 c = y) ∨ (b1 ≠ 0 ∧ dv_add (V fl 4 c) (V fl 0 c) = y) ∨ (dv_add (V fl 3 c) (V fl 0 c) = x ∧ V fl 4 c = y) then 1 else 0), c + 1) := by
  unfold f_X1_threeMoreMeetAt_42
  rw [bq, bq, bq]
  by_cases k : dv_add (V fl 3 c) (V fl 0 c) = x
  · rw [if_neg (fun g => g k), tm_68]
    simp [k]
  · rw [if_pos k, tm_68]
    simp [k]
theorem qs_add {f g : Nat → Int} {n : Nat} : qs (fun i => f i + g i) n = qs f n + qs g n := by
  induction n with
  | zero => rfl
  | succ n ih => unfold qs; rw [ih]; omega
theorem q_three (hk : kgf (V fl)) (x0 : -1000 ≤ x ∧ x ≤ 1000) (y0 : -1000 ≤ y ∧ y ≤ 1000) : f_X1_threeMoreMeetAt V fl x y = (ip (exN (V fl) (tB (V fl) x y) ∧ exN (V fl) (tC (V fl) x y) ∧ exN (V fl) (tD (V fl) x y)), ()) := by
  have h7 := hk.1.1
  have met : ∀ n : Nat, n ≤ (V fl 7 0).toNat → qs (fun i => ip (tB (V fl) x y (i : Int))) n = ip (∃ i, i < n ∧ tB (V fl) x y (i : Int)) ∧ qs (fun i => ip (tC (V fl) x y (i : Int))) n = ip (∃ i, i < n ∧ tC (V fl) x y (i : Int)) ∧ qs (fun i => ip (tD (V fl) x y (i : Int))) n = ip (∃ i, i < n ∧ tD (V fl) x y (i : Int)) := fun n hn =>
    ⟨qs_one (fun i j hi hj u v => c_eq hk (by omega) (by omega) (tB_c hk (by omega) u) (tB_c hk (by omega) v)), qs_one (fun i j hi hj u v => c_eq hk (by omega) (by omega) (tC_c hk (by omega) u) (tC_c hk (by omega) v)), qs_one (fun i j hi hj u v => c_eq hk (by omega) (by omega) (tD_c hk (by omega) u) (tD_c hk (by omega) v))⟩
  unfold f_X1_threeMoreMeetAt
  refine dv_inv (b := f_X1_threeMoreMeetAt_5b) (P := fun q => ∃ k : Nat, q = (V, fl, x, y, qs (fun i => ip (tB (V fl) x y (i : Int))) k + qs (fun i => ip (tC (V fl) x y (i : Int))) k + qs (fun i => ip (tD (V fl) x y (i : Int))) k, (k : Int)) ∧ k ≤ (V fl 7 0).toNat) (Q := fun q => q = (ip (exN (V fl) (tB (V fl) x y) ∧ exN (V fl) (tC (V fl) x y) ∧ exN (V fl) (tD (V fl) x y)), ())) (m := fun q => ((V fl 7 0).toNat : Int).toNat - q.2.2.2.2.2.toNat) ?_ _ ⟨0, rfl, by omega⟩
  rintro q ⟨k, rfl, k9⟩
  obtain ⟨m1, m2, m3⟩ := met k k9
  have b1 := ip_b (P := ∃ i, i < k ∧ tB (V fl) x y (i : Int))
  have b2 := ip_b (P := ∃ i, i < k ∧ tC (V fl) x y (i : Int))
  have b3 := ip_b (P := ∃ i, i < k ∧ tD (V fl) x y (i : Int))
  rw [f_X1_threeMoreMeetAt_5e]
  unfold f_X1_threeMoreMeetAt_5c
  rw [bq]
  by_cases e : V fl 7 0 ≤ (k : Int)
  · have ek : k = (V fl 7 0).toNat := by omega
    rw [if_pos e, m1, m2, m3]
    right
    rw [ek] at b1 b2 b3 ⊢
    by_cases g1 : ∃ i, i < (V fl 7 0).toNat ∧ tB (V fl) x y (i : Int)
    case neg =>
      refine ⟨_, if_pos (by rw [ip_0 g1]; omega), ?_⟩
      rw [ip_0 (fun g => g1 g.1)]
    by_cases g2 : ∃ i, i < (V fl 7 0).toNat ∧ tC (V fl) x y (i : Int)
    case neg =>
      refine ⟨_, if_pos (by rw [ip_0 g2]; omega), ?_⟩
      rw [ip_0 (fun g => g2 g.2.1)]
    by_cases g3 : ∃ i, i < (V fl 7 0).toNat ∧ tD (V fl) x y (i : Int)
    case neg =>
      refine ⟨_, if_pos (by rw [ip_0 g3]; omega), ?_⟩
      rw [ip_0 (fun g => g3 g.2.2)]
    refine ⟨_, if_neg (by rw [ip_1 g1, ip_1 g2, ip_1 g3]; decide), ?_⟩
    rw [ip_1 (show exN (V fl) (tB (V fl) x y) ∧ exN (V fl) (tC (V fl) x y) ∧ exN (V fl) (tD (V fl) x y) from ⟨g1, g2, g3⟩)]
  rw [if_neg e]
  left
  have hc := hk.1.2.2.2 (k : Int) (by omega) (by omega)
  have hsd := (hk.2.2.1 (k : Int) (by omega) (by omega)).1
  have fin : ∀ z : Int, z = ip (tB (V fl) x y (k : Int)) + ip (tC (V fl) x y (k : Int)) + ip (tD (V fl) x y (k : Int)) → ∃ t, Sum.inl (V, fl, x, y, dv_add (qs (fun i => ip (tB (V fl) x y (i : Int))) k + qs (fun i => ip (tC (V fl) x y (i : Int))) k + qs (fun i => ip (tD (V fl) x y (i : Int))) k) z, (k : Int) + 1) = (Sum.inl t : Sum (dV × Int × Int × Int × Int × Int) dP) ∧ (∃ k : Nat, t = (V, fl, x, y, qs (fun i => ip (tB (V fl) x y (i : Int))) k + qs (fun i => ip (tC (V fl) x y (i : Int))) k + qs (fun i => ip (tD (V fl) x y (i : Int))) k, (k : Int)) ∧ k ≤ (V fl 7 0).toNat) ∧ ((V fl 7 0).toNat : Int).toNat - t.2.2.2.2.2.toNat < ((V fl 7 0).toNat : Int).toNat - (k : Int).toNat := fun z hz => by
    have c1 := ip_b (P := tB (V fl) x y (k : Int))
    have c2 := ip_b (P := tC (V fl) x y (k : Int))
    have c3 := ip_b (P := tD (V fl) x y (k : Int))
    refine ⟨_, rfl, ⟨k + 1, ?_, by omega⟩, by dsimp only; omega⟩
    rw [m1, m2, m3, dv_add_ok (by omega) (by omega) (by omega) (by omega) (by omega) (by omega)]
    have n1 : qs (fun i => ip (tB (V fl) x y (i : Int))) (k + 1) = qs (fun i => ip (tB (V fl) x y (i : Int))) k + ip (tB (V fl) x y (k : Int)) := rfl
    have n2 : qs (fun i => ip (tC (V fl) x y (i : Int))) (k + 1) = qs (fun i => ip (tC (V fl) x y (i : Int))) k + ip (tC (V fl) x y (k : Int)) := rfl
    have n3 : qs (fun i => ip (tD (V fl) x y (i : Int))) (k + 1) = qs (fun i => ip (tD (V fl) x y (i : Int))) k + ip (tD (V fl) x y (k : Int)) := rfl
    rw [n1, n2, n3, m1, m2, m3, hz, Int.natCast_succ]
    congr 5
    omega
  by_cases l : V fl 3 (k : Int) = -1
  · rw [dv_bn2 (il_0 l), if_neg (fun g => g rfl)]
    have f0 := fin 0 (by rw [ip_0 (fun g => g.1 l), ip_0 (fun g => g.1 l), ip_0 (fun g => g.1 l)]; rfl)
    have e0 : f_X1_threeMoreMeetAt_152 V fl x y (k : Int) (qs (fun i => ip (tB (V fl) x y (i : Int))) k + qs (fun i => ip (tC (V fl) x y (i : Int))) k + qs (fun i => ip (tD (V fl) x y (i : Int))) k) = Sum.inl (V, fl, x, y, dv_add (qs (fun i => ip (tB (V fl) x y (i : Int))) k + qs (fun i => ip (tC (V fl) x y (i : Int))) k + qs (fun i => ip (tD (V fl) x y (i : Int))) k) 0, (k : Int) + 1) := by
      unfold f_X1_threeMoreMeetAt_152
      rw [bq, m1, m2, m3, dv_add_ok (by omega) (by omega) (by omega) (by omega) (by decide) (by decide), Int.add_zero]
    rw [e0]
    exact f0
  have hp := hc.2.resolve_left l
  have sx : dv_add (V fl 3 (k : Int)) (V fl 0 (k : Int)) = V fl 3 (k : Int) + V fl 0 (k : Int) := dv_add_ok (by omega) (by omega) (by omega) (by omega) (by omega) (by omega)
  have sy : dv_add (V fl 4 (k : Int)) (V fl 0 (k : Int)) = V fl 4 (k : Int) + V fl 0 (k : Int) := dv_add_ok (by omega) (by omega) (by omega) (by omega) (by omega) (by omega)
  have val : (if V fl 3 (k : Int) ≠ x then f_X1_threeMoreMeetAt_42 V fl x y (qs (fun i => ip (tB (V fl) x y (i : Int))) k + qs (fun i => ip (tC (V fl) x y (i : Int))) k + qs (fun i => ip (tD (V fl) x y (i : Int))) k) (k : Int) 0 else f_X1_threeMoreMeetAt_42 V fl x y (qs (fun i => ip (tB (V fl) x y (i : Int))) k + qs (fun i => ip (tC (V fl) x y (i : Int))) k + qs (fun i => ip (tD (V fl) x y (i : Int))) k) (k : Int) 1) = Sum.inl (V, fl, x, y, dv_add (qs (fun i => ip (tB (V fl) x y (i : Int))) k + qs (fun i => ip (tC (V fl) x y (i : Int))) k + qs (fun i => ip (tD (V fl) x y (i : Int))) k) (if (V fl 3 (k : Int) = x ∧ V fl 4 (k : Int) = y) ∨ (V fl 3 (k : Int) = x ∧ V fl 4 (k : Int) + V fl 0 (k : Int) = y) ∨ (V fl 3 (k : Int) + V fl 0 (k : Int) = x ∧ V fl 4 (k : Int) = y) then 1 else 0), (k : Int) + 1) := by
    by_cases g : V fl 3 (k : Int) = x
    · rw [if_neg (fun u => u g), tm_42, sx, sy]
      simp [g]
    · rw [if_pos g, tm_42, sx, sy]
      simp [g]
  rw [dv_bn2 (il_1 (by omega) (by omega) l), if_pos (by decide), bq, val]
  refine fin _ ?_
  unfold tB tC tD
  by_cases g1 : V fl 3 (k : Int) = x
  · by_cases g2 : V fl 4 (k : Int) = y
    · rw [if_pos (Or.inl ⟨g1, g2⟩), ip_0 (fun u => by have := u.2.2; omega), ip_0 (fun u => by have := u.2.1; omega), ip_1 ⟨l, g1, g2⟩]; rfl
    · by_cases g3 : V fl 4 (k : Int) + V fl 0 (k : Int) = y
      · rw [if_pos (Or.inr (Or.inl ⟨g1, g3⟩)), ip_1 ⟨l, g1, g3⟩, ip_0 (fun u => g2 u.2.2), ip_0 (fun u => g2 u.2.2)]; rfl
      · rw [if_neg (by omega), ip_0 (fun u => g3 u.2.2), ip_0 (fun u => g2 u.2.2), ip_0 (fun u => g2 u.2.2)]; rfl
  · by_cases g2 : V fl 3 (k : Int) + V fl 0 (k : Int) = x ∧ V fl 4 (k : Int) = y
    · rw [if_pos (Or.inr (Or.inr g2)), ip_0 (fun u => g1 u.2.1), ip_1 ⟨l, g2.1, g2.2⟩, ip_0 (fun u => g1 u.2.1)]; rfl
    · rw [if_neg (by omega), ip_0 (fun u => g1 u.2.1), ip_0 (fun u => g2 u.2), ip_0 (fun u => g1 u.2.1)]; rfl
/-- a carpet at whose upper right corner four meet -/
def kc (φ : Nat → Int → Int) (c : Int) : Prop := φ 3 c ≠ -1 ∧ K4 φ (φ 3 c + φ 0 c) (φ 4 c + φ 0 c)
theorem K4_r (hk : kgf φ) (k : K4 φ x y) : (1 ≤ x ∧ x < φ 8 0) ∧ 1 ≤ y ∧ y < φ 9 0 := by
  obtain ⟨⟨j1, l1, m1⟩, -, -, ⟨j4, l4, m4⟩⟩ := k
  have s1 := t_sd hk l1
  have s4 := t_sd hk l4
  have b1 := (hk.1.2.2.2 j1 (by omega) (by omega)).2.resolve_left m1.1
  have b4 := hk.2.2.2.1 j4 (by omega) (by omega) m4.1
  obtain ⟨-, a2, a3⟩ := m1
  obtain ⟨-, d2, d3⟩ := m4
  omega
theorem K4_A (hk : kgf φ) : ip (K4 φ x y) = qs (fun i => ip (tA φ x y (i : Int) ∧ K4 φ x y)) (φ 7 0).toNat := by
  rw [qs_one (fun i j hi hj u v => c_eq hk hi hj (tA_c hk hi u.1) (tA_c hk hj v.1))]
  apply ip_c
  constructor
  · intro k
    obtain ⟨i, hi, m⟩ := k.1
    exact ⟨i, hi, m, k⟩
  · rintro ⟨i, hi, m, k⟩; exact k
theorem K4_c (hk : kgf φ) (hi : i < (φ 7 0).toNat) : qs (fun x => qs (fun y => ip (tA φ (x : Int) (y : Int) (i : Int) ∧ K4 φ (x : Int) (y : Int))) 13) 13 = ip (kc φ (i : Int)) := by
  have h1 : ∀ x : Nat, qs (fun y => ip (tA φ (x : Int) (y : Int) (i : Int) ∧ K4 φ (x : Int) (y : Int))) 13 = ip (∃ y : Nat, y < 13 ∧ tA φ (x : Int) (y : Int) (i : Int) ∧ K4 φ (x : Int) (y : Int)) := fun x => qs_one (fun y z hy hz u v => by
    have u3 := u.1.2.2
    have v3 := v.1.2.2
    omega)
  rw [qs_c (fun x _ => h1 x), qs_one (P := fun x : Nat => ∃ y : Nat, y < 13 ∧ tA φ (x : Int) (y : Int) (i : Int) ∧ K4 φ (x : Int) (y : Int)) (fun x z hx hz u v => by
    obtain ⟨y1, -, u1, -⟩ := u
    obtain ⟨y2, -, v1, -⟩ := v
    have u2 := u1.2.1
    have v2 := v1.2.1
    omega)]
  apply ip_c
  constructor
  · rintro ⟨x, hx, y, hy, ⟨t1, t2, t3⟩, k⟩
    exact ⟨t1, by rw [t2, t3]; exact k⟩
  · rintro ⟨t1, k⟩
    have b1 := (hk.1.2.2.2 i (by omega) (by omega)).2.resolve_left t1
    have b4 := hk.2.2.2.1 i (by omega) (by omega) t1
    have b8 := hk.1.2.1
    have b9 := hk.1.2.2.1
    have s1 := t_sd hk hi
    have ex : (((φ 3 (i : Int) + φ 0 (i : Int)).toNat : Nat) : Int) = φ 3 (i : Int) + φ 0 (i : Int) := by omega
    have ey : (((φ 4 (i : Int) + φ 0 (i : Int)).toNat : Nat) : Int) = φ 4 (i : Int) + φ 0 (i : Int) := by omega
    refine ⟨(φ 3 (i : Int) + φ 0 (i : Int)).toNat, by omega, (φ 4 (i : Int) + φ 0 (i : Int)).toNat, by omega, ?_⟩
    rw [ex, ey]
    exact ⟨⟨t1, rfl, rfl⟩, k⟩
theorem K4_sum (hk : kgf φ) : qs (fun x => qs (fun y => ip (K4 φ (x : Int) (y : Int))) 13) 13 = qs (fun i => ip (kc φ (i : Int))) (φ 7 0).toNat := by
  have h1 : ∀ x : Nat, qs (fun y => ip (K4 φ (x : Int) (y : Int))) 13 = qs (fun i => qs (fun y => ip (tA φ (x : Int) (y : Int) (i : Int) ∧ K4 φ (x : Int) (y : Int))) 13) (φ 7 0).toNat := fun x => by
    rw [qs_c (fun y _ => K4_A (x := (x : Int)) (y := (y : Int)) hk)]
    exact qs_sw
  rw [qs_c (fun x _ => h1 x), qs_sw]
  exact qs_c (fun i hi => K4_c hk hi)
theorem q_crossPoints (hk : kgf (V fl)) : f_X1_crossPoints V fl = (qs (fun i => ip (kc (V fl) (i : Int))) (V fl 7 0).toNat, ()) := by
  have h7 := hk.1.1
  unfold f_X1_crossPoints
  refine dv_inv (b := f_X1_crossPoints_4b) (P := fun q => ∃ k : Nat, q = (V, fl, qs (fun i => ip (kc (V fl) (i : Int))) k, (k : Int)) ∧ k ≤ (V fl 7 0).toNat) (Q := fun q => q = (qs (fun i => ip (kc (V fl) (i : Int))) (V fl 7 0).toNat, ())) (m := fun q => (V fl 7 0 - q.2.2.2).toNat) ?_ _ ⟨0, rfl, by omega⟩
  rintro q ⟨k, rfl, k9⟩
  have hq := qs_b (f := fun i : Nat => ip (kc (V fl) (i : Int))) (n := k) (k := 1) (fun _ _ => ip_b)
  rw [f_X1_crossPoints_4e]
  unfold f_X1_crossPoints_4c
  rw [bq]
  by_cases e : V fl 7 0 ≤ (k : Int)
  · rw [if_pos e, show (V fl 7 0).toNat = k by omega]
    exact Or.inr ⟨_, rfl, rfl⟩
  rw [if_neg e]
  have e56 : ∀ z : Int, f_X1_crossPoints_56 V fl (k : Int) z = Sum.inl (V, fl, z, (k : Int) + 1) := fun z => by
    unfold f_X1_crossPoints_56
    rw [bq]
  have no : ¬ kc (V fl) (k : Int) → ∃ t, (Sum.inl (V, fl, qs (fun i => ip (kc (V fl) (i : Int))) k, (k : Int) + 1) : Sum (dV × Int × Int × Int) dP) = Sum.inl t ∧ (∃ k : Nat, t = (V, fl, qs (fun i => ip (kc (V fl) (i : Int))) k, (k : Int)) ∧ k ≤ (V fl 7 0).toNat) ∧ (V fl 7 0 - t.2.2.2).toNat < (V fl 7 0 - (k : Int)).toNat := fun g => by
    refine ⟨_, rfl, ⟨k + 1, ?_, by omega⟩, by dsimp only; omega⟩
    show _ = (V, fl, qs (fun i => ip (kc (V fl) (i : Int))) k + ip (kc (V fl) (k : Int)), ((k + 1 : Nat) : Int))
    rw [ip_0 g, Int.add_zero, Int.natCast_succ]
  left
  by_cases l : V fl 3 (k : Int) = -1
  · rw [dv_bn2 (il_0 l), if_pos rfl, e56]
    exact no (fun g => g.1 l)
  have hc := hk.1.2.2.2 (k : Int) (by omega) (by omega)
  have hp := hc.2.resolve_left l
  have sx : dv_add (V fl 3 (k : Int)) (V fl 0 (k : Int)) = V fl 3 (k : Int) + V fl 0 (k : Int) := dv_add_ok (by omega) (by omega) (by omega) (by omega) (by omega) (by omega)
  have sy : dv_add (V fl 4 (k : Int)) (V fl 0 (k : Int)) = V fl 4 (k : Int) + V fl 0 (k : Int) := dv_add_ok (by omega) (by omega) (by omega) (by omega) (by omega) (by omega)
  rw [dv_bn2 (il_1 (by omega) (by omega) l), if_neg (by decide), bq, bq, bq, bq, bq, bq, sx, sy, dv_bn2 (q_three hk (by omega) (by omega))]
  by_cases g : exN (V fl) (tB (V fl) (V fl 3 (k : Int) + V fl 0 (k : Int)) (V fl 4 (k : Int) + V fl 0 (k : Int))) ∧ exN (V fl) (tC (V fl) (V fl 3 (k : Int) + V fl 0 (k : Int)) (V fl 4 (k : Int) + V fl 0 (k : Int))) ∧ exN (V fl) (tD (V fl) (V fl 3 (k : Int) + V fl 0 (k : Int)) (V fl 4 (k : Int) + V fl 0 (k : Int)))
  · have yes : kc (V fl) (k : Int) := ⟨l, ⟨k, by omega, l, rfl, rfl⟩, g⟩
    rw [ip_1 g, if_neg (by decide), bq, dv_add_ok (by omega) (by omega) (by omega) (by omega) (by decide) (by decide), e56]
    refine ⟨_, rfl, ⟨k + 1, ?_, by omega⟩, by dsimp only; omega⟩
    show _ = (V, fl, qs (fun i => ip (kc (V fl) (i : Int))) k + ip (kc (V fl) (k : Int)), ((k + 1 : Nat) : Int))
    rw [ip_1 yes, Int.natCast_succ]
  · rw [ip_0 g, if_pos rfl, e56]
    exact no (fun u => g u.2.2)
theorem q_crosses (h : RR A a V W) : f_X12_crosses W a = (qs (fun x => qs (fun y => ip (K4 (V (A 4)) (x : Int) (y : Int))) 13) 13, ()) := by
  obtain ⟨kk, e7, e8, e9, -⟩ := RR_n h
  have b8 := kk.1.2.1
  have b9 := kk.1.2.2.1
  have hi : ∀ (x : Int) (n : Nat), 0 ≤ qs (fun y => ip (K4 (V (A 4)) x (y : Int))) n ∧ qs (fun y => ip (K4 (V (A 4)) x (y : Int))) n ≤ n := fun x n => by
    have := qs_b (f := fun y : Nat => ip (K4 (V (A 4)) x (y : Int))) (n := n) (k := 1) (fun _ _ => ip_b)
    omega
  have h00 : ∀ x : Int, qs (fun y => ip (K4 (V (A 4)) x (y : Int))) 1 = 0 := fun x => by
    show (0 : Int) + ip (K4 (V (A 4)) x ((0 : Nat) : Int)) = 0
    rw [ip_0 (fun k => by have := K4_r kk k; omega)]
    rfl
  have h0 : qs (fun x => qs (fun y => ip (K4 (V (A 4)) (x : Int) (y : Int))) 13) 1 = 0 := by
    show (0 : Int) + qs (fun y => ip (K4 (V (A 4)) ((0 : Nat) : Int) (y : Int))) 13 = 0
    rw [qs_z (n := 0) (by decide) (fun i _ _ => ip_0 (fun k => by have := K4_r kk k; omega))]
    rfl
  unfold f_X12_crosses
  refine dv_inv (b := f_X12_crosses_4b) (P := fun q => ∃ k : Nat, q = (W, a, qs (fun x => qs (fun y => ip (K4 (V (A 4)) (x : Int) (y : Int))) 13) k, (k : Int)) ∧ 1 ≤ k ∧ k ≤ 13) (Q := fun q => q = (qs (fun x => qs (fun y => ip (K4 (V (A 4)) (x : Int) (y : Int))) 13) 13, ())) (m := fun q => (13 - q.2.2.2).toNat) ?_ _ ⟨1, by rw [h0]; rfl, by decide, by decide⟩
  rintro q ⟨k, rfl, k1, k13⟩
  have hn := qs_b (f := fun x : Nat => qs (fun y : Nat => ip (K4 (V (A 4)) (x : Int) (y : Int))) 13) (n := k) (k := 13) (fun x _ => ⟨(hi x 13).1, (hi x 13).2⟩)
  rw [f_X12_crosses_4e]
  unfold f_X12_crosses_4c
  rw [bq, ← e8]
  by_cases e : V (A 4) 8 0 ≤ (k : Int)
  · rw [if_pos e]
    refine Or.inr ⟨_, rfl, ?_⟩
    rw [qs_z (f := fun x : Nat => qs (fun y : Nat => ip (K4 (V (A 4)) (x : Int) (y : Int))) 13) k13 (fun i i0 i1 => (qs_z (n := 0) (by decide) (fun j _ _ => ip_0 (fun k => by have := K4_r kk k; omega))).trans rfl)]
  rw [if_neg e]
  have L17 : dv_lp f_X12_crosses_17b (W, a, (k : Int), qs (fun x => qs (fun y => ip (K4 (V (A 4)) (x : Int) (y : Int))) 13) k, 1) = Sum.inl (W, a, qs (fun x => qs (fun y => ip (K4 (V (A 4)) (x : Int) (y : Int))) 13) k + qs (fun y => ip (K4 (V (A 4)) (k : Int) (y : Int))) 13, (k : Int) + 1) := by
    refine dv_inv (b := f_X12_crosses_17b) (P := fun q => ∃ j : Nat, q = (W, a, (k : Int), qs (fun x => qs (fun y => ip (K4 (V (A 4)) (x : Int) (y : Int))) 13) k + qs (fun y => ip (K4 (V (A 4)) (k : Int) (y : Int))) j, (j : Int)) ∧ 1 ≤ j ∧ j ≤ 13) (Q := fun q => q = Sum.inl (W, a, qs (fun x => qs (fun y => ip (K4 (V (A 4)) (x : Int) (y : Int))) 13) k + qs (fun y => ip (K4 (V (A 4)) (k : Int) (y : Int))) 13, (k : Int) + 1)) (m := fun q => (13 - q.2.2.2.2).toNat) ?_ _ ⟨1, by rw [h00, Int.add_zero]; rfl, by decide, by decide⟩
    rintro q ⟨j, rfl, j1, j13⟩
    have hj := hi (k : Int) j
    have e43 : ∀ z : Int, f_X12_crosses_43 W a (k : Int) (j : Int) (qs (fun x => qs (fun y => ip (K4 (V (A 4)) (x : Int) (y : Int))) 13) k + qs (fun y => ip (K4 (V (A 4)) (k : Int) (y : Int))) j) z = Sum.inl (W, a, (k : Int), dv_add (qs (fun x => qs (fun y => ip (K4 (V (A 4)) (x : Int) (y : Int))) 13) k + qs (fun y => ip (K4 (V (A 4)) (k : Int) (y : Int))) j) z, (j : Int) + 1) := fun z => by
      unfold f_X12_crosses_43
      rw [bq, bq]
    rw [f_X12_crosses_17e]
    unfold f_X12_crosses_17c
    rw [bq, ← e9]
    by_cases g : V (A 4) 9 0 ≤ (j : Int)
    · rw [if_pos g, bq]
      refine Or.inr ⟨_, rfl, ?_⟩
      rw [qs_z (f := fun y : Nat => ip (K4 (V (A 4)) (k : Int) (y : Int))) j13 (fun i i0 i1 => ip_0 (fun u => by have := K4_r kk u; omega))]
    rw [if_neg g, dv_bn2 (q_isCross h (by omega) (by omega))]
    by_cases u : K4 (V (A 4)) (k : Int) (j : Int)
    · rw [ip_1 u, if_neg (by decide), e43, dv_add_ok (by omega) (by omega) (by omega) (by omega) (by decide) (by decide)]
      refine Or.inl ⟨_, rfl, ⟨j + 1, ?_, by omega, by omega⟩, by dsimp only; omega⟩
      show _ = (W, a, (k : Int), _ + (qs (fun y => ip (K4 (V (A 4)) (k : Int) (y : Int))) j + ip (K4 (V (A 4)) (k : Int) (j : Int))), ((j + 1 : Nat) : Int))
      rw [ip_1 u, Int.natCast_succ, Int.add_assoc]
    · rw [ip_0 u, if_pos rfl, e43, dv_add_ok (by omega) (by omega) (by omega) (by omega) (by decide) (by decide), Int.add_zero]
      refine Or.inl ⟨_, rfl, ⟨j + 1, ?_, by omega, by omega⟩, by dsimp only; omega⟩
      show _ = (W, a, (k : Int), _ + (qs (fun y => ip (K4 (V (A 4)) (k : Int) (y : Int))) j + ip (K4 (V (A 4)) (k : Int) (j : Int))), ((j + 1 : Nat) : Int))
      rw [ip_0 u, Int.natCast_succ, Int.add_zero]
  rw [L17]
  exact Or.inl ⟨_, rfl, ⟨k + 1, rfl, by omega, by omega⟩, by dsimp only; omega⟩
theorem L_crosses (h : RR A a V W) : ∃ u, f_X11_crosses V (A 0) = (u, ()) ∧ f_X12_crosses W a = (u, ()) := by
  obtain ⟨g0, g1, -⟩ := RR_G h
  obtain ⟨kk, -⟩ := RR_n h
  refine ⟨_, ?_, q_crosses h⟩
  unfold f_X11_crosses
  rw [bq, g0, bq, g1, bq2, q_crossPoints kk, K4_sum kk]
end QUC
end
section
section QUD
variable {φ : Nat → Int → Int} {S S' : Nat → Prop} {f g : Nat → Int} {n N : Nat} {l r b t l' r' b' t' w h : Int} {P Q : Prop}
theorem qs_le (h : ∀ i, i < n → f i ≤ g i) : qs f n ≤ qs g n := by
  induction n with
  | zero => exact Int.le_refl _
  | succ n ih =>
    show qs f n + f n ≤ qs g n + g n
    have h1 := ih (fun i hi => h i (by omega))
    have h2 := h n (by omega)
    omega
theorem qs_ge (h : ∀ i, i < n → 0 ≤ f i) {i : Nat} (hi : i < n) : f i ≤ qs f n := by
  induction n with
  | zero => omega
  | succ n ih =>
    show f i ≤ qs f n + f n
    by_cases e : i = n
    · subst e
      have h1 : 0 ≤ qs f i := by
        have h2 := qs_le (f := fun _ => (0 : Int)) (g := f) (n := i) (fun j hj => h j (by omega))
        have h3 : qs (fun _ => (0 : Int)) i = 0 := (qs_z (f := fun _ => (0 : Int)) (n := 0) (Nat.zero_le _) (fun _ _ _ => rfl)).trans rfl
        omega
      omega
    · have h1 := ih (fun j hj => h j (by omega)) (by omega)
      have h2 := h n (by omega)
      omega
theorem qs_mr {k : Int} : qs (fun i => f i * k) n = qs f n * k := by
  induction n with
  | zero => show (0 : Int) = 0 * k; rw [Int.zero_mul]
  | succ n ih =>
    show qs (fun i => f i * k) n + f n * k = (qs f n + f n) * k
    rw [ih, Int.add_mul]
theorem qs_z0 : qs (fun _ => (0 : Int)) n = 0 := (qs_z (f := fun _ => (0 : Int)) (n := 0) (Nat.zero_le _) (fun _ _ _ => rfl)).trans rfl
theorem qs_ad : qs (fun i => f i + g i) n = qs f n + qs g n := by
  induction n with
  | zero => rfl
  | succ n ih =>
    show qs (fun i => f i + g i) n + (f n + g n) = (qs f n + f n) + (qs g n + g n)
    rw [ih]; omega
/-- two of a set -/
def two (S : Nat → Prop) (n : Nat) : Prop := ∃ i j : Nat, i < j ∧ j < n ∧ S i ∧ S j
theorem two_c (h : ∀ i, i < n → (S i ↔ S' i)) : two S n → two S' n := fun ⟨i, j, h1, h2, h3, h4⟩ => ⟨i, j, h1, h2, (h i (by omega)).mp h3, (h j h2).mp h4⟩
theorem two_qs : 2 ≤ qs (fun i => ip (S i)) n ↔ two S n := by
  constructor
  · intro h
    refine Classical.byContradiction (fun k => ?_)
    have h1 := qs_one (P := S) (n := n) (fun i j hi hj pi pj => by
      by_cases e : i = j
      · exact e
      · by_cases e2 : i < j
        · exact absurd ⟨i, j, e2, hj, pi, pj⟩ k
        · exact absurd ⟨j, i, by omega, hi, pj, pi⟩ k)
    have h2 := ip_b (P := ∃ i, i < n ∧ S i)
    omega
  · rintro ⟨i, j, h1, h2, h3, h4⟩
    induction n with
    | zero => omega
    | succ n ih =>
      show 2 ≤ qs (fun i => ip (S i)) n + ip (S n)
      by_cases e : j = n
      · subst e
        have k := qs_ge (f := fun i => ip (S i)) (n := j) (fun _ _ => ip_b.1) h1
        have k1 : ip (S i) = 1 := ip_1 h3
        have k2 : ip (S j) = 1 := ip_1 h4
        omega
      · have k := ih (by omega)
        have k2 := ip_b (P := S n)
        omega
-- areas
theorem seg (h0 : 0 ≤ l) (h1 : l ≤ r) : qs (fun i => ip (l ≤ (i : Int) ∧ (i : Int) < r)) n = if (n : Int) ≤ l then 0 else if (n : Int) ≤ r then (n : Int) - l else r - l := by
  induction n with
  | zero => rw [if_pos (by omega)]; rfl
  | succ n ih =>
    show qs (fun i => ip (l ≤ (i : Int) ∧ (i : Int) < r)) n + ip (l ≤ (n : Int) ∧ (n : Int) < r) = _
    rw [ih]
    by_cases k : l ≤ (n : Int) ∧ (n : Int) < r
    · rw [ip_1 k]
      split <;> split <;> (try split) <;> (try split) <;> omega
    · rw [ip_0 k]
      split <;> split <;> (try split) <;> (try split) <;> omega
theorem seg12 (h0 : 0 ≤ l) (h1 : l ≤ r) (h2 : r ≤ 12) : qs (fun i => ip (l ≤ (i : Int) ∧ (i : Int) < r)) 12 = r - l := by
  rw [seg h0 h1]
  split
  · omega
  · split <;> omega
theorem boxA (l0 : 0 ≤ l) (l1 : l ≤ r) (r1 : r ≤ 12) (b0 : 0 ≤ b) (b1 : b ≤ t) (t1 : t ≤ 12) : qs (fun x => qs (fun y => ip ((l ≤ (x : Int) ∧ (x : Int) < r) ∧ (b ≤ (y : Int) ∧ (y : Int) < t))) 12) 12 = (r - l) * (t - b) := by
  have h1 : ∀ x : Nat, qs (fun y : Nat => ip ((l ≤ (x : Int) ∧ (x : Int) < r) ∧ (b ≤ (y : Int) ∧ (y : Int) < t))) 12 = ip (l ≤ (x : Int) ∧ (x : Int) < r) * (t - b) := fun x => by
    by_cases k : l ≤ (x : Int) ∧ (x : Int) < r
    · rw [ip_1 k, Int.one_mul, ← seg12 b0 b1 t1]
      exact qs_c (fun y _ => ip_c ⟨fun q => q.2, fun q => ⟨k, q⟩⟩)
    · rw [ip_0 k, Int.zero_mul]
      exact (qs_c (fun y _ => ip_0 (fun q => k q.1))).trans qs_z0
  rw [qs_c (fun x _ => h1 x), qs_mr, seg12 l0 l1 r1]
/-- a carpet within a rectangle -/
def inR (φ : Nat → Int → Int) (l r b t : Int) (i : Nat) : Prop := φ 3 (i : Int) ≠ -1 ∧ (l ≤ φ 3 (i : Int) ∧ φ 3 (i : Int) + φ 0 (i : Int) ≤ r) ∧ b ≤ φ 4 (i : Int) ∧ φ 4 (i : Int) + φ 0 (i : Int) ≤ t
/-- the area of a set -/
noncomputable def ar (φ : Nat → Int → Int) (S : Nat → Prop) (n : Nat) : Int := qs (fun i => ip (S i) * (φ 0 (i : Int) * φ 0 (i : Int))) n
theorem ar_c (h : ∀ i, i < n → (S i ↔ S' i)) : ar φ S n = ar φ S' n := qs_c (fun i hi => by rw [ip_c (h i hi)])
theorem ar_lt (hs : ∀ i : Nat, i < n → 1 ≤ φ 0 (i : Int)) (h : ∀ i, i < n → S i → S' i) {j : Nat} (hj : j < n) (j1 : S' j) (j2 : ¬ S j) : ar φ S n < ar φ S' n := by
  have tm : ∀ i : Nat, i < n → ip (S i) * (φ 0 (i : Int) * φ 0 (i : Int)) ≤ ip (S' i) * (φ 0 (i : Int) * φ 0 (i : Int)) := fun i hi => by
    have h0 : 0 ≤ φ 0 (i : Int) * φ 0 (i : Int) := Int.mul_nonneg (by have := hs i hi; omega) (by have := hs i hi; omega)
    by_cases k : S i
    · rw [ip_1 k, ip_1 (h i hi k)]; exact Int.le_refl _
    · rw [ip_0 k, Int.zero_mul]
      exact Int.mul_nonneg ip_b.1 h0
  have key : ∀ m : Nat, m ≤ n → (m ≤ j → ar φ S m ≤ ar φ S' m) ∧ (j < m → ar φ S m < ar φ S' m) := by
    intro m
    induction m with
    | zero => exact fun _ => ⟨fun _ => Int.le_refl _, fun w => absurd w (by omega)⟩
    | succ m ih =>
      intro hm
      obtain ⟨i1, i2⟩ := ih (by omega)
      have t0 := tm m (by omega)
      refine ⟨fun w => ?_, fun w => ?_⟩
      · show ar φ S m + ip (S m) * (φ 0 (m : Int) * φ 0 (m : Int)) ≤ ar φ S' m + ip (S' m) * (φ 0 (m : Int) * φ 0 (m : Int))
        have := i1 (by omega)
        omega
      · show ar φ S m + ip (S m) * (φ 0 (m : Int) * φ 0 (m : Int)) < ar φ S' m + ip (S' m) * (φ 0 (m : Int) * φ 0 (m : Int))
        by_cases e : j = m
        · subst e
          have k1 := i1 (Nat.le_refl _)
          have k2 : 1 * 1 ≤ φ 0 (j : Int) * φ 0 (j : Int) := Int.mul_le_mul (hs j hj) (hs j hj) (by decide) (by have := hs j hj; omega)
          rw [ip_0 j2, ip_1 j1, Int.zero_mul, Int.one_mul]
          omega
        · have := i2 (by omega)
          omega
  exact (key n (Nat.le_refl _)).2 hj
theorem sq_cov {i : Nat} (l : φ 3 (i : Int) ≠ -1) (hx : 0 ≤ φ 3 (i : Int)) (hy : 0 ≤ φ 4 (i : Int)) (hs : 0 ≤ φ 0 (i : Int)) (hxs : φ 3 (i : Int) + φ 0 (i : Int) ≤ 12) (hys : φ 4 (i : Int) + φ 0 (i : Int) ≤ 12) : qs (fun x => qs (fun y => ip (cov φ (i : Int) (x : Int) (y : Int))) 12) 12 = φ 0 (i : Int) * φ 0 (i : Int) := by
  have e := boxA hx (show φ 3 (i : Int) ≤ φ 3 (i : Int) + φ 0 (i : Int) by omega) hxs hy (show φ 4 (i : Int) ≤ φ 4 (i : Int) + φ 0 (i : Int) by omega) hys
  rw [show φ 3 (i : Int) + φ 0 (i : Int) - φ 3 (i : Int) = φ 0 (i : Int) by omega, show φ 4 (i : Int) + φ 0 (i : Int) - φ 4 (i : Int) = φ 0 (i : Int) by omega] at e
  rw [← e]
  refine qs_c (fun x _ => qs_c (fun y _ => ip_c ?_))
  unfold cov
  exact ⟨fun ⟨_, q1, q2, q3, q4⟩ => ⟨⟨q1, q2⟩, q3, q4⟩, fun ⟨⟨q1, q2⟩, q3, q4⟩ => ⟨l, q1, q2, q3, q4⟩⟩
/-- carpets within a rectangle take no more than its area -/
theorem pack (hk : kgf φ) (hn : n = (φ 7 0).toNat) (l0 : 0 ≤ l) (l1 : l ≤ r) (r1 : r ≤ 12) (b0 : 0 ≤ b) (b1 : b ≤ t) (t1 : t ≤ 12) (hS : ∀ i, i < n → S i → inR φ l r b t i) : ar φ S n ≤ (r - l) * (t - b) := by
  have h1 : ∀ i : Nat, i < n → ip (S i) * (φ 0 (i : Int) * φ 0 (i : Int)) = qs (fun x => qs (fun y => ip (S i ∧ cov φ (i : Int) (x : Int) (y : Int))) 12) 12 := fun i hi => by
    by_cases k : S i
    · obtain ⟨q1, ⟨q2, q3⟩, q4, q5⟩ := hS i hi k
      have q6 := hk.2.2.1 i (by omega) (by omega)
      rw [ip_1 k, Int.one_mul, ← sq_cov q1 (by omega) (by omega) (by omega) (by omega) (by omega)]
      exact qs_c (fun x _ => qs_c (fun y _ => ip_c ⟨fun q => ⟨k, q⟩, fun q => q.2⟩))
    · rw [ip_0 k, Int.zero_mul]
      refine ((qs_c (fun x _ => ?_)).trans qs_z0).symm
      exact (qs_c (fun y _ => ip_0 (fun q => k q.1))).trans qs_z0
  have h2 : ar φ S n = qs (fun x => qs (fun y => qs (fun i => ip (S i ∧ cov φ (i : Int) (x : Int) (y : Int))) n) 12) 12 := by
    unfold ar
    rw [qs_c h1, qs_sw]
    exact qs_c (fun x _ => qs_sw)
  rw [h2, ← boxA l0 l1 r1 b0 b1 t1]
  refine qs_le (fun x _ => qs_le (fun y _ => ?_))
  rw [qs_one (fun i j hi hj pi pj => by
    have := hk.2.1 i j x y (by omega) (by omega) (by omega) (by omega) pi.2 pj.2
    omega)]
  by_cases k : ∃ i, i < n ∧ S i ∧ cov φ (i : Int) (x : Int) (y : Int)
  · obtain ⟨i, hi, k1, k2⟩ := k
    obtain ⟨q1, ⟨q2, q3⟩, q4, q5⟩ := hS i hi k1
    have k3 := k2
    obtain ⟨-, c1, c2, c3, c4⟩ := k2
    rw [ip_1 ⟨i, hi, k1, k3⟩, ip_1 ⟨⟨by omega, by omega⟩, by omega, by omega⟩]
    exact Int.le_refl _
  · rw [ip_0 k]
    exact ip_b.1
/-- a set's bounds -/
def BB (φ : Nat → Int → Int) (S : Nat → Prop) (n : Nat) (l r b t : Int) : Prop := (∀ i : Nat, i < n → S i → (l ≤ φ 3 (i : Int) ∧ φ 3 (i : Int) + φ 0 (i : Int) ≤ r) ∧ b ≤ φ 4 (i : Int) ∧ φ 4 (i : Int) + φ 0 (i : Int) ≤ t) ∧ (∃ i : Nat, i < n ∧ S i ∧ φ 3 (i : Int) = l) ∧ (∃ i : Nat, i < n ∧ S i ∧ φ 3 (i : Int) + φ 0 (i : Int) = r) ∧ (∃ i : Nat, i < n ∧ S i ∧ φ 4 (i : Int) = b) ∧ ∃ i : Nat, i < n ∧ S i ∧ φ 4 (i : Int) + φ 0 (i : Int) = t
theorem BB_u (h : BB φ S n l r b t) (k : BB φ S n l' r' b' t') : (l = l' ∧ r = r') ∧ b = b' ∧ t = t' := by
  obtain ⟨h0, ⟨i1, i2, i3, i4⟩, ⟨j1, j2, j3, j4⟩, ⟨u1, u2, u3, u4⟩, v1, v2, v3, v4⟩ := h
  obtain ⟨k0, ⟨m1, m2, m3, m4⟩, ⟨o1, o2, o3, o4⟩, ⟨p1, p2, p3, p4⟩, q1, q2, q3, q4⟩ := k
  have a1 := k0 i1 i2 i3
  have a2 := k0 j1 j2 j3
  have a3 := k0 u1 u2 u3
  have a4 := k0 v1 v2 v3
  have b1 := h0 m1 m2 m3
  have b2 := h0 o1 o2 o3
  have b3 := h0 p1 p2 p3
  have b4 := h0 q1 q2 q3
  refine ⟨⟨?_, ?_⟩, ?_, ?_⟩ <;> omega
theorem mn_ex {F : Nat → Int} (h : ∃ i, i < n ∧ S i) : ∃ v : Int, (∀ i, i < n → S i → v ≤ F i) ∧ ∃ i, i < n ∧ S i ∧ F i = v := by
  induction n with
  | zero => obtain ⟨i, hi, _⟩ := h; omega
  | succ n ih =>
    by_cases k : ∃ i, i < n ∧ S i
    · obtain ⟨v, v1, j, j1, j2, j3⟩ := ih k
      by_cases w : S n ∧ F n < v
      · exact ⟨F n, fun i hi si => by
          by_cases e : i = n
          · rw [e]; exact Int.le_refl _
          · have := v1 i (by omega) si
            omega, n, by omega, w.1, rfl⟩
      · refine ⟨v, fun i hi si => ?_, j, by omega, j2, j3⟩
        by_cases e : i = n
        · rw [e] at si ⊢
          exact Int.not_lt.mp (fun q => w ⟨si, q⟩)
        · exact v1 i (by omega) si
    · obtain ⟨i, hi, si⟩ := h
      have e : i = n := by
        by_cases e : i = n
        · exact e
        · exact absurd ⟨i, by omega, si⟩ k
      subst e
      exact ⟨F i, fun j hj sj => by
        by_cases e : j = i
        · rw [e]; exact Int.le_refl _
        · exact absurd ⟨j, by omega, sj⟩ k, i, by omega, si, rfl⟩
theorem BB_ex (h : ∃ i, i < n ∧ S i) : ∃ l r b t : Int, BB φ S n l r b t := by
  obtain ⟨l, l1, l2⟩ := mn_ex (F := fun i => φ 3 (i : Int)) h
  obtain ⟨r, r1, i, i1, i2, i3⟩ := mn_ex (F := fun i => -(φ 3 (i : Int) + φ 0 (i : Int))) h
  obtain ⟨b, b1, b2⟩ := mn_ex (F := fun i => φ 4 (i : Int)) h
  obtain ⟨t, t1, j, j1, j2, j3⟩ := mn_ex (F := fun i => -(φ 4 (i : Int) + φ 0 (i : Int))) h
  refine ⟨l, -r, b, -t, fun k hk sk => ?_, l2, ⟨i, i1, i2, by omega⟩, b2, ⟨j, j1, j2, by omega⟩⟩
  have k1 := l1 k hk sk
  have k2 := r1 k hk sk
  have k3 := b1 k hk sk
  have k4 := t1 k hk sk
  omega
theorem two_ne (h : two S n) : ∃ i, i < n ∧ S i := by
  obtain ⟨i, j, h1, h2, h3, h4⟩ := h
  exact ⟨j, h2, h4⟩
/-- the set's carpets are laid and fill its bounds -/
def Rl (φ : Nat → Int → Int) (S : Nat → Prop) (n : Nat) (l r b t : Int) : Prop := two S n ∧ (∀ i : Nat, i < n → S i → φ 3 (i : Int) ≠ -1) ∧ BB φ S n l r b t ∧ ar φ S n = (r - l) * (t - b)
/-- what lies within the rectangle fills it -/
def Qr (φ : Nat → Int → Int) (n : Nat) (l r b t : Int) : Prop := two (inR φ l r b t) n ∧ ar φ (inR φ l r b t) n = (r - l) * (t - b)
theorem Rl_b (hk : kgf φ) (hn : n = (φ 7 0).toNat) (h2 : ∀ i : Nat, i < n → S i → φ 3 (i : Int) ≠ -1) (h : BB φ S n l r b t) : (0 ≤ l ∧ l < r ∧ r ≤ φ 8 0) ∧ 0 ≤ b ∧ b < t ∧ t ≤ φ 9 0 := by
  have key : ∀ i : Nat, i < n → S i → (0 ≤ φ 3 (i : Int) ∧ 0 ≤ φ 4 (i : Int)) ∧ 1 ≤ φ 0 (i : Int) ∧ φ 3 (i : Int) + φ 0 (i : Int) ≤ φ 8 0 ∧ φ 4 (i : Int) + φ 0 (i : Int) ≤ φ 9 0 := fun i hi si => by
    have q1 := h2 i hi si
    have q2 := hk.1.2.2.2 i (by omega) (by omega)
    have q3 := hk.2.2.1 i (by omega) (by omega)
    have q4 := hk.2.2.2.1 i (by omega) (by omega) q1
    have q5 := q2.2.resolve_left q1
    omega
  obtain ⟨h0, ⟨i1, i2, i3, i4⟩, ⟨j1, j2, j3, j4⟩, ⟨u1, u2, u3, u4⟩, v1, v2, v3, v4⟩ := h
  have a1 := key i1 i2 i3
  have a2 := key j1 j2 j3
  have a3 := key u1 u2 u3
  have a4 := key v1 v2 v3
  have c1 := h0 i1 i2 i3
  have c2 := h0 u1 u2 u3
  omega
/-- from the set to the rectangle -/
theorem Rl_Q (hk : kgf φ) (hn : n = (φ 7 0).toNat) (h : Rl φ S n l r b t) : Qr φ n l r b t ∧ ∀ i, i < n → (S i ↔ inR φ l r b t i) := by
  obtain ⟨h1, h2, h3, h4⟩ := h
  obtain ⟨⟨l0, l1, l2⟩, b0, b1, b2⟩ := Rl_b hk hn h2 h3
  have w8 := hk.1.2.1
  have w9 := hk.1.2.2.1
  have hs : ∀ i : Nat, i < n → 1 ≤ φ 0 (i : Int) := fun i hi => (hk.2.2.1 i (by omega) (by omega)).1
  have sub : ∀ i, i < n → S i → inR φ l r b t i := fun i hi si => ⟨h2 i hi si, h3.1 i hi si⟩
  have pk := pack (S := inR φ l r b t) hk hn l0 (by omega) (by omega) b0 (by omega) (by omega) (fun _ _ q => q)
  have eq : ∀ i, i < n → (S i ↔ inR φ l r b t i) := fun i hi => ⟨sub i hi, fun q => Classical.byContradiction (fun k => by
    have := ar_lt hs sub hi q k
    omega)⟩
  exact ⟨⟨two_c eq h1, (ar_c eq).symm.trans h4⟩, eq⟩
theorem mul_sq {u U v V : Int} (hu : u ≤ U) (hv : v ≤ V) (u1 : 1 ≤ u) (v1 : 1 ≤ v) (h : U * V ≤ u * v) : u = U ∧ v = V := by
  constructor
  · refine Classical.byContradiction (fun k => ?_)
    have h1 := Int.mul_le_mul (show u ≤ U - 1 by omega) hv (by omega) (by omega)
    rw [Int.sub_mul, Int.one_mul] at h1
    omega
  · refine Classical.byContradiction (fun k => ?_)
    have h1 := Int.mul_le_mul hu (show v ≤ V - 1 by omega) (by omega) (by omega)
    rw [Int.mul_sub, Int.mul_one] at h1
    omega
/-- from the rectangle to the set -/
theorem Q_Rl (hk : kgf φ) (hn : n = (φ 7 0).toNat) (h : Qr φ n l r b t) (e : ∀ i, i < n → (S i ↔ inR φ l r b t i)) : Rl φ S n l r b t := by
  obtain ⟨h1, h2⟩ := h
  have lw : ∀ i : Nat, i < n → S i → φ 3 (i : Int) ≠ -1 := fun i hi si => ((e i hi).mp si).1
  have tw : two S n := two_c (fun i hi => (e i hi).symm) h1
  obtain ⟨l', r', b', t', hB⟩ := BB_ex (φ := φ) (two_ne tw)
  obtain ⟨⟨l0, l1, l2⟩, b0, b1, b2⟩ := Rl_b hk hn lw hB
  have w8 := hk.1.2.1
  have w9 := hk.1.2.2.1
  have eA : ar φ S n = (r - l) * (t - b) := (ar_c e).trans h2
  have pk := pack (S := S) hk hn l0 (by omega) (show r' ≤ 12 by omega) b0 (by omega) (show t' ≤ 12 by omega) (fun i hi si => ⟨lw i hi si, hB.1 i hi si⟩)
  have hB' := hB
  obtain ⟨h0, ⟨i1, i2, i3, i4⟩, ⟨j1, j2, j3, j4⟩, ⟨u1, u2, u3, u4⟩, v1, v2, v3, v4⟩ := hB
  have a1 := ((e i1 i2).mp i3).2
  have a2 := ((e j1 j2).mp j3).2
  have a3 := ((e u1 u2).mp u3).2
  have a4 := ((e v1 v2).mp v3).2
  obtain ⟨k1, k2⟩ := mul_sq (u := r' - l') (U := r - l) (v := t' - b') (V := t - b) (by omega) (by omega) (by omega) (by omega) (by omega)
  have ll : l' = l := by omega
  have rr : r' = r := by omega
  have bb : b' = b := by omega
  have tt : t' = t := by omega
  subst ll rr bb tt
  exact ⟨tw, lw, hB', eA⟩
-- sets as numbers
theorem tb_ex (S : Nat → Prop) (n : Nat) : ∃ m : Nat, m < 2 ^ n ∧ ∀ i, i < n → (m.testBit i = true ↔ S i) := by
  induction n with
  | zero => exact ⟨0, by decide, fun i hi => absurd hi (by omega)⟩
  | succ n ih =>
    obtain ⟨m, m1, m2⟩ := ih
    have e2 : 2 ^ (n + 1) = 2 ^ n + 2 ^ n := by rw [Nat.pow_succ]; omega
    by_cases k : S n
    · refine ⟨2 ^ n + m, by omega, fun i hi => ?_⟩
      by_cases e : i = n
      · subst e
        rw [Nat.testBit_two_pow_add_eq, Nat.testBit_lt_two_pow m1]
        exact ⟨fun _ => k, fun _ => rfl⟩
      · rw [Nat.testBit_two_pow_add_gt (show i < n by omega)]
        exact m2 i (by omega)
    · refine ⟨m, by omega, fun i hi => ?_⟩
      by_cases e : i = n
      · subst e
        rw [Nat.testBit_lt_two_pow m1]
        exact ⟨fun q => (by cases q), fun q => absurd q k⟩
      · exact m2 i (by omega)
theorem tb_u {m m' : Nat} (h : m < 2 ^ n) (h' : m' < 2 ^ n) (e : ∀ i, i < n → (m.testBit i = true ↔ m'.testBit i = true)) : m = m' := by
  refine Nat.eq_of_testBit_eq (fun i => ?_)
  by_cases k : i < n
  · exact Bool.eq_iff_iff.mpr (e i k)
  · rw [Nat.testBit_lt_two_pow (Nat.lt_of_lt_of_le h (Nat.pow_le_pow_right (by decide) (by omega))), Nat.testBit_lt_two_pow (Nat.lt_of_lt_of_le h' (Nat.pow_le_pow_right (by decide) (by omega)))]
def tb (m i : Nat) : Prop := m.testBit i = true
/-- over all rectangles -/
noncomputable def q4 (F : Nat → Nat → Nat → Nat → Int) : Int := qs (fun x => qs (fun r => qs (fun y => qs (fun t => F x r y t) 13) 12) 13) 12
theorem q4_c {F G : Nat → Nat → Nat → Nat → Int} (h : ∀ x r y t, x < 12 → r < 13 → y < 12 → t < 13 → F x r y t = G x r y t) : q4 F = q4 G := qs_c (fun x hx => qs_c (fun r hr => qs_c (fun y hy => qs_c (fun t ht => h x r y t hx hr hy ht))))
theorem q4_sw {F : Nat → Nat → Nat → Nat → Nat → Int} : qs (fun m => q4 (F m)) N = q4 (fun x r y t => qs (fun m => F m x r y t) N) := by
  unfold q4
  rw [qs_sw]
  refine qs_c (fun x _ => ?_)
  rw [qs_sw]
  refine qs_c (fun r _ => ?_)
  rw [qs_sw]
  exact qs_c (fun y _ => qs_sw)
theorem q4_one {R : Nat → Nat → Nat → Nat → Prop} (hu : ∀ x r y t x' r' y' t', R x r y t → R x' r' y' t' → (x = x' ∧ r = r') ∧ y = y' ∧ t = t') : q4 (fun x r y t => ip (R x r y t)) = ip (∃ x, x < 12 ∧ ∃ r, r < 13 ∧ ∃ y, y < 12 ∧ ∃ t, t < 13 ∧ R x r y t) := by
  unfold q4
  have h1 : ∀ x r y : Nat, qs (fun t => ip (R x r y t)) 13 = ip (∃ t, t < 13 ∧ R x r y t) := fun x r y => qs_one (fun t t' _ _ p p' => (hu _ _ _ _ _ _ _ _ p p').2.2)
  have h2 : ∀ x r : Nat, qs (fun y => qs (fun t => ip (R x r y t)) 13) 12 = ip (∃ y, y < 12 ∧ ∃ t, t < 13 ∧ R x r y t) := fun x r => by
    rw [qs_c (fun y _ => h1 x r y)]
    exact qs_one (fun y y' _ _ ⟨_, _, p⟩ ⟨_, _, p'⟩ => (hu _ _ _ _ _ _ _ _ p p').2.1)
  have h3 : ∀ x : Nat, qs (fun r => qs (fun y => qs (fun t => ip (R x r y t)) 13) 12) 13 = ip (∃ r, r < 13 ∧ ∃ y, y < 12 ∧ ∃ t, t < 13 ∧ R x r y t) := fun x => by
    rw [qs_c (fun r _ => h2 x r)]
    exact qs_one (fun r r' _ _ ⟨_, _, _, _, p⟩ ⟨_, _, _, _, p'⟩ => (hu _ _ _ _ _ _ _ _ p p').1.2)
  rw [qs_c (fun x _ => h3 x)]
  exact qs_one (fun x x' _ _ ⟨_, _, _, _, _, _, p⟩ ⟨_, _, _, _, _, _, p'⟩ => (hu _ _ _ _ _ _ _ _ p p').1.1)
/-- sets that fill their bounds -/
def Pa (φ : Nat → Int → Int) (n m : Nat) : Prop := ∃ l r b t : Int, Rl φ (tb m) n l r b t
def Pc (φ : Nat → Int → Int) (n m : Nat) : Prop := Pa φ n m ∧ ar φ (tb m) n < φ 8 0 * φ 9 0
/-- a rectangle in the hall, filled -/
def VQ (φ : Nat → Int → Int) (n x r y t : Nat) : Prop := (x < r ∧ (r : Int) ≤ φ 8 0 ∧ y < t ∧ (t : Int) ≤ φ 9 0) ∧ Qr φ n (x : Int) (r : Int) (y : Int) (t : Int)
theorem inner_sum (hk : kgf φ) (hn : n = (φ 7 0).toNat) : qs (fun m => ip (Pc φ n m)) (2 ^ n) = q4 (fun x r y t => ip (VQ φ n x r y t)) - ip (Qr φ n 0 (φ 8 0) 0 (φ 9 0)) := by
  have w8 := hk.1.2.1
  have w9 := hk.1.2.2.1
  have d1 : ∀ m : Nat, ip (Pa φ n m) = ip (Pc φ n m) + ip (Pa φ n m ∧ φ 8 0 * φ 9 0 ≤ ar φ (tb m) n) := fun m => by
    by_cases k : Pa φ n m
    · by_cases k2 : ar φ (tb m) n < φ 8 0 * φ 9 0
      · rw [ip_1 k, ip_1 (show Pc φ n m from ⟨k, k2⟩), ip_0 (fun q => absurd q.2 (by omega))]; rfl
      · rw [ip_1 k, ip_0 (show ¬ Pc φ n m from fun q => k2 q.2), ip_1 ⟨k, by omega⟩]; rfl
    · rw [ip_0 k, ip_0 (show ¬ Pc φ n m from fun q => k q.1), ip_0 (fun q => k q.1)]; rfl
  have d2 : qs (fun m => ip (Pa φ n m)) (2 ^ n) = qs (fun m => ip (Pc φ n m)) (2 ^ n) + qs (fun m => ip (Pa φ n m ∧ φ 8 0 * φ 9 0 ≤ ar φ (tb m) n)) (2 ^ n) := by
    rw [qs_c (fun m _ => d1 m)]
    exact qs_ad
  -- those that fill the hall
  have hall : ∀ m : Nat, m < 2 ^ n → (Pa φ n m ∧ φ 8 0 * φ 9 0 ≤ ar φ (tb m) n ↔ Rl φ (tb m) n 0 (φ 8 0) 0 (φ 9 0)) := fun m _ => by
    constructor
    · rintro ⟨⟨l, r, b, t, k1, k2, k3, k4⟩, k5⟩
      obtain ⟨⟨l0, l1, l2⟩, b0, b1, b2⟩ := Rl_b hk hn k2 k3
      obtain ⟨q1, q2⟩ := mul_sq (u := r - l) (U := φ 8 0) (v := t - b) (V := φ 9 0) (by omega) (by omega) (by omega) (by omega) (by omega)
      have e1 : l = 0 := by omega
      have e2 : r = φ 8 0 := by omega
      have e3 : b = 0 := by omega
      have e4 : t = φ 9 0 := by omega
      subst e1 e2 e3 e4
      exact ⟨k1, k2, k3, k4⟩
    · intro k
      refine ⟨⟨_, _, _, _, k⟩, ?_⟩
      have k4 := k.2.2.2
      rw [Int.sub_zero, Int.sub_zero] at k4
      omega
  have ex : ∀ l r b t : Int, (∃ m, m < 2 ^ n ∧ Rl φ (tb m) n l r b t) ↔ Qr φ n l r b t := fun l r b t => by
    constructor
    · rintro ⟨m, -, k⟩; exact (Rl_Q hk hn k).1
    · intro k
      obtain ⟨m, m1, m2⟩ := tb_ex (inR φ l r b t) n
      exact ⟨m, m1, Q_Rl hk hn k m2⟩
  have un : ∀ l r b t : Int, ∀ m m' : Nat, m < 2 ^ n → m' < 2 ^ n → Rl φ (tb m) n l r b t → Rl φ (tb m') n l r b t → m = m' := fun l r b t m m' hm hm' k k' => tb_u hm hm' (fun i hi => ((Rl_Q hk hn k).2 i hi).trans ((Rl_Q hk hn k').2 i hi).symm)
  have d3 : qs (fun m => ip (Pa φ n m ∧ φ 8 0 * φ 9 0 ≤ ar φ (tb m) n)) (2 ^ n) = ip (Qr φ n 0 (φ 8 0) 0 (φ 9 0)) := by
    rw [qs_c (fun m hm => ip_c (hall m hm)), qs_one (un _ _ _ _)]
    exact ip_c (ex _ _ _ _)
  have d4 : qs (fun m => ip (Pa φ n m)) (2 ^ n) = q4 (fun x r y t => ip (VQ φ n x r y t)) := by
    have h1 : ∀ m : Nat, ip (Pa φ n m) = q4 (fun x r y t => ip (Rl φ (tb m) n (x : Int) (r : Int) (y : Int) (t : Int))) := fun m => by
      rw [q4_one (R := fun x r y t => Rl φ (tb m) n (x : Int) (r : Int) (y : Int) (t : Int)) (fun x r y t x' r' y' t' p p' => by
        have := BB_u p.2.2.1 p'.2.2.1
        omega)]
      refine ip_c ⟨fun ⟨l, r, b, t, k⟩ => ?_, fun ⟨x, _, r, _, y, _, t, _, k⟩ => ⟨_, _, _, _, k⟩⟩
      obtain ⟨⟨l0, l1, l2⟩, b0, b1, b2⟩ := Rl_b hk hn k.2.1 k.2.2.1
      refine ⟨l.toNat, by omega, r.toNat, by omega, b.toNat, by omega, t.toNat, by omega, ?_⟩
      rw [show ((l.toNat : Nat) : Int) = l by omega, show ((r.toNat : Nat) : Int) = r by omega, show ((b.toNat : Nat) : Int) = b by omega, show ((t.toNat : Nat) : Int) = t by omega]
      exact k
    rw [qs_c (fun m _ => h1 m), q4_sw]
    refine q4_c (fun x r y t hx hr hy ht => ?_)
    rw [qs_one (un _ _ _ _)]
    refine ip_c ⟨fun ⟨m, m1, k⟩ => ?_, fun k => (ex _ _ _ _).mpr k.2⟩
    obtain ⟨⟨l0, l1, l2⟩, b0, b1, b2⟩ := Rl_b hk hn k.2.1 k.2.2.1
    exact ⟨⟨by omega, l2, by omega, b2⟩, (ex _ _ _ _).mp ⟨m, m1, k⟩⟩
  omega
end QUD
section QUE
variable {V W : dV} {a fl l r b t : Int} {A : Nat → Int} {n m x y : Nat} {φ : Nat → Int → Int} {S : Nat → Prop}
theorem qb_tb : ∀ m : Fin 512, ∀ i : Fin 9, qb (m.1 : Int) i.1 = m.1.testBit i.1 := by decide +kernel
theorem bc_two : ∀ m : Fin 512, ((f_J6_bitCount_0f7a4 (fun _ _ _ => 0) (m.1 : Int)).1 < 2 ↔ ¬ ∃ i : Fin 9, ∃ j : Fin 9, i.1 < j.1 ∧ m.1.testBit i.1 = true ∧ m.1.testBit j.1 = true) := by decide +kernel
theorem sh_two : ∀ n : Fin 10, dv_shl 1 (n.1 : Int) = ((2 ^ n.1 : Nat) : Int) := by decide +kernel
theorem ar_b (hs : ∀ i : Nat, i < n → 0 ≤ φ 0 (i : Int) ∧ φ 0 (i : Int) ≤ 12) : 0 ≤ ar φ S n ∧ ar φ S n ≤ 144 * n := qs_b (fun i hi => by
  have h0 := qm_b (hs i hi).1 (hs i hi).2 (hs i hi).1 (hs i hi).2
  by_cases k : S i
  · rw [ip_1 k, Int.one_mul]; exact ⟨h0.1, by omega⟩
  · rw [ip_0 k, Int.zero_mul]; exact ⟨by decide, by decide⟩)
theorem q_within (hk : kgf φ) (h7 : φ 7 0 = W a 2 69) (ec : ∀ c, 0 ≤ c → c < 9 → φ 0 c = W a 2 (29 + c) ∧ φ 3 c = W a 2 (9 + c) ∧ φ 4 c = W a 2 (18 + c)) : f_X12_within W a l b r t = (@ite Int (two (inR φ l r b t) (φ 7 0).toNat) (Classical.propDecidable _) (ar φ (inR φ l r b t) (φ 7 0).toNat) (-1), ()) := by
  have n9 := hk.1.1
  unfold f_X12_within
  refine dv_inv (b := f_X12_within_9b) (P := fun q => ∃ k : Nat, q = (W, a, l, b, r, t, qs (fun i => ip (inR φ l r b t i)) k, ar φ (inR φ l r b t) k, (k : Int)) ∧ k ≤ (φ 7 0).toNat) (Q := fun q => q = (@ite Int (two (inR φ l r b t) (φ 7 0).toNat) (Classical.propDecidable _) (ar φ (inR φ l r b t) (φ 7 0).toNat) (-1), ())) (m := fun q => (9 - q.2.2.2.2.2.2.2.2).toNat) ?_ _ ⟨0, rfl, by omega⟩
  rintro q ⟨k, rfl, k9⟩
  have hq := qs_b (f := fun i : Nat => ip (inR φ l r b t i)) (n := k) (k := 1) (fun _ _ => ip_b)
  have ha := ar_b (φ := φ) (S := inR φ l r b t) (n := k) (fun i hi => ⟨(hk.1.2.2.2 i (by omega) (by omega)).1.1, (hk.1.2.2.2 i (by omega) (by omega)).1.2⟩)
  rw [f_X12_within_9e]
  unfold f_X12_within_9c
  rw [dv_bn2 q_many]
  by_cases e : W a 2 69 ≤ (k : Int)
  · rw [if_pos e, show (φ 7 0).toNat = k by omega]
    by_cases g : two (inR φ l r b t) k
    · rw [if_pos (two_qs.mpr g), if_pos g]
      exact Or.inr ⟨_, rfl, rfl⟩
    · rw [if_neg (fun q => g (two_qs.mp q)), if_neg g]
      exact Or.inr ⟨_, rfl, rfl⟩
  rw [if_neg e, bq, bq]
  left
  obtain ⟨c0, c3, c4⟩ := ec (k : Int) (by omega) (by omega)
  have hc := hk.1.2.2.2 (k : Int) (by omega) (by omega)
  have e118 : ∀ u v : Int, f_X12_within_118 W a l b r t (k : Int) u v = Sum.inl (W, a, l, b, r, t, u, v, (k : Int) + 1) := fun u v => by
    unfold f_X12_within_118
    rw [bq]
  have skip : ¬ inR φ l r b t k → ∃ s, (Sum.inl (W, a, l, b, r, t, qs (fun i => ip (inR φ l r b t i)) k, ar φ (inR φ l r b t) k, (k : Int) + 1) : Sum (dV × Int × Int × Int × Int × Int × Int × Int × Int) dP) = Sum.inl s ∧ (∃ k : Nat, s = (W, a, l, b, r, t, qs (fun i => ip (inR φ l r b t i)) k, ar φ (inR φ l r b t) k, (k : Int)) ∧ k ≤ (φ 7 0).toNat) ∧ (9 - s.2.2.2.2.2.2.2.2).toNat < (9 - (k : Int)).toNat := fun g => by
    refine ⟨_, rfl, ⟨k + 1, ?_, by omega⟩, by dsimp only; omega⟩
    show _ = (W, a, l, b, r, t, qs (fun i => ip (inR φ l r b t i)) k + ip (inR φ l r b t k), ar φ (inR φ l r b t) k + ip (inR φ l r b t k) * (φ 0 (k : Int) * φ 0 (k : Int)), ((k + 1 : Nat) : Int))
    rw [ip_0 g, Int.zero_mul, Int.add_zero, Int.add_zero, Int.natCast_succ]
  by_cases lz : φ 3 (k : Int) = -1
  · rw [dv_bn2 (ml_0 (c3.symm.trans lz)), if_pos rfl, e118]
    exact skip (fun q => q.1 lz)
  have hp := hc.2.resolve_left lz
  have sx : dv_add (φ 3 (k : Int)) (φ 0 (k : Int)) = φ 3 (k : Int) + φ 0 (k : Int) := dv_add_ok (by omega) (by omega) (by omega) (by omega) (by omega) (by omega)
  have sy : dv_add (φ 4 (k : Int)) (φ 0 (k : Int)) = φ 4 (k : Int) + φ 0 (k : Int) := dv_add_ok (by omega) (by omega) (by omega) (by omega) (by omega) (by omega)
  have s2 := qm_b hc.1.1 hc.1.2 hc.1.1 hc.1.2
  rw [dv_bn2 (ml_1 (fun w => lz (c3.trans w))), if_neg (by decide), bq, bq, ← c3, ← c0]
  by_cases x1 : φ 3 (k : Int) < l
  · rw [if_pos x1, e118]
    exact skip (fun q => by have := q.2.1; omega)
  rw [if_neg x1, bq, bq, ← c4]
  by_cases y1 : φ 4 (k : Int) < b
  · rw [if_pos y1, e118]
    exact skip (fun q => by have := q.2.2; omega)
  rw [if_neg y1, bq, bq, bq, ← c3, sx]
  by_cases r1 : r < φ 3 (k : Int) + φ 0 (k : Int)
  · rw [if_pos r1, e118]
    exact skip (fun q => by have := q.2.1; omega)
  rw [if_neg r1, bq, bq, bq, ← c4, sy]
  by_cases t1 : φ 4 (k : Int) + φ 0 (k : Int) ≤ t
  · have g : inR φ l r b t k := ⟨lz, ⟨by omega, by omega⟩, by omega, by omega⟩
    rw [if_pos t1, bq, bq, bq, e118, dv_add_ok (by omega) (by omega) (by omega) (by omega) (by omega) (by omega), dv_add_ok (by omega) (by omega) (by omega) (by omega) (by omega) (by omega)]
    refine ⟨_, rfl, ⟨k + 1, ?_, by omega⟩, by dsimp only; omega⟩
    show _ = (W, a, l, b, r, t, qs (fun i => ip (inR φ l r b t i)) k + ip (inR φ l r b t k), ar φ (inR φ l r b t) k + ip (inR φ l r b t k) * (φ 0 (k : Int) * φ 0 (k : Int)), ((k + 1 : Nat) : Int))
    rw [ip_1 g, Int.one_mul, Int.natCast_succ]
  · rw [if_neg t1, e118]
    exact skip (fun q => by have := q.2.2; omega)
/-- whether it fills the rectangle -/
theorem w_Q (h0 : 0 ≤ (r - l) * (t - b)) : (@ite Int (two (inR φ l r b t) n) (Classical.propDecidable _) (ar φ (inR φ l r b t) n) (-1) = (r - l) * (t - b)) ↔ Qr φ n l r b t := by
  unfold Qr
  by_cases g : two (inR φ l r b t) n
  · rw [if_pos g]
    exact ⟨fun q => ⟨g, q⟩, fun q => q.2⟩
  · rw [if_neg g]
    exact ⟨fun q => by omega, fun q => absurd q.1 g⟩
theorem q_in54 (hk : kgf φ) (h7 : φ 7 0 = W a 2 69) (ec : ∀ c, 0 ≤ c → c < 9 → φ 0 c = W a 2 (29 + c) ∧ φ 3 c = W a 2 (9 + c) ∧ φ 4 c = W a 2 (18 + c)) {N : Int} (hN : 0 ≤ N ∧ N ≤ 100000) {R : Nat} (hx : x < R) (hr : (R : Int) ≤ φ 8 0) (hy : (y : Int) < φ 9 0) : dv_lp f_X12_inner_54b (W, φ 9 0, φ 8 0, a, (x : Int), (R : Int), (y : Int), N, (y : Int) + 1) = Sum.inl (W, φ 9 0, φ 8 0, a, (x : Int), (R : Int), N + qs (fun t => ip (VQ φ (φ 7 0).toNat x R y t)) 13, (y : Int) + 1) := by
  have w8 := hk.1.2.1
  have w9 := hk.1.2.2.1
  refine dv_inv (b := f_X12_inner_54b) (P := fun q => ∃ k : Nat, q = (W, φ 9 0, φ 8 0, a, (x : Int), (R : Int), (y : Int), N + qs (fun t => ip (VQ φ (φ 7 0).toNat x R y t)) k, (k : Int)) ∧ y + 1 ≤ k ∧ k ≤ 13) (Q := fun q => q = Sum.inl (W, φ 9 0, φ 8 0, a, (x : Int), (R : Int), N + qs (fun t => ip (VQ φ (φ 7 0).toNat x R y t)) 13, (y : Int) + 1)) (m := fun q => (13 - q.2.2.2.2.2.2.2.2).toNat) ?_ _ ⟨y + 1, ?_, Nat.le_refl _, by omega⟩
  · rintro q ⟨k, rfl, k1, k13⟩
    have hq := qs_b (f := fun t : Nat => ip (VQ φ (φ 7 0).toNat x R y t)) (n := k) (k := 1) (fun _ _ => ip_b)
    have e92 : ∀ z : Int, f_X12_inner_92 W (φ 9 0) (φ 8 0) a (x : Int) (R : Int) (y : Int) (k : Int) (N + qs (fun t => ip (VQ φ (φ 7 0).toNat x R y t)) k) z = Sum.inl (W, φ 9 0, φ 8 0, a, (x : Int), (R : Int), (y : Int), dv_add (N + qs (fun t => ip (VQ φ (φ 7 0).toNat x R y t)) k) z, (k : Int) + 1) := fun z => by
      unfold f_X12_inner_92
      rw [bq, bq]
    rw [f_X12_inner_54e]
    unfold f_X12_inner_54c
    by_cases e : φ 9 0 < (k : Int)
    · rw [if_pos e, bq]
      refine Or.inr ⟨_, rfl, ?_⟩
      rw [qs_z (n := k) (k := 13) k13 (fun t t0 _ => ip_0 (fun q => by have := q.1.2.2.2; omega))]
    have s2 := qm_b (x := (R : Int) - x) (y := (k : Int) - y) (a := 12) (b := 12) (by omega) (by omega) (by omega) (by omega)
    rw [if_neg e, dv_bn2 (q_within hk h7 ec), bq, bq, bq, dv_mul_ok (by omega) (by omega) (by omega) (by omega) (by omega) (by omega)]
    left
    by_cases g : Qr φ (φ 7 0).toNat (x : Int) (R : Int) (y : Int) (k : Int)
    · rw [if_neg (fun q => q ((w_Q s2.1).mpr g)), e92, dv_add_ok (by omega) (by omega) (by omega) (by omega) (by decide) (by decide)]
      refine ⟨_, rfl, ⟨k + 1, ?_, by omega, by omega⟩, by dsimp only; omega⟩
      show _ = (W, φ 9 0, φ 8 0, a, (x : Int), (R : Int), (y : Int), N + (qs (fun t => ip (VQ φ (φ 7 0).toNat x R y t)) k + ip (VQ φ (φ 7 0).toNat x R y k)), ((k + 1 : Nat) : Int))
      rw [ip_1 (show VQ φ (φ 7 0).toNat x R y k from ⟨⟨hx, hr, by omega, by omega⟩, g⟩), Int.natCast_succ, Int.add_assoc]
    · rw [if_pos (fun q => g ((w_Q s2.1).mp q)), e92, dv_add_ok (by omega) (by omega) (by omega) (by omega) (by decide) (by decide), Int.add_zero]
      refine ⟨_, rfl, ⟨k + 1, ?_, by omega, by omega⟩, by dsimp only; omega⟩
      show _ = (W, φ 9 0, φ 8 0, a, (x : Int), (R : Int), (y : Int), N + (qs (fun t => ip (VQ φ (φ 7 0).toNat x R y t)) k + ip (VQ φ (φ 7 0).toNat x R y k)), ((k + 1 : Nat) : Int))
      rw [ip_0 (show ¬ VQ φ (φ 7 0).toNat x R y k from fun q => g q.2), Int.natCast_succ, Int.add_zero]
  · rw [(qs_z (f := fun t : Nat => ip (VQ φ (φ 7 0).toNat x R y t)) (n := 0) (k := y + 1) (Nat.zero_le _) (fun t _ ht => ip_0 (fun q => by have := q.1.2.2.1; omega))).trans (show qs _ 0 = (0 : Int) from rfl), Int.add_zero, Int.natCast_succ]
theorem q_in42 (hk : kgf φ) (h7 : φ 7 0 = W a 2 69) (ec : ∀ c, 0 ≤ c → c < 9 → φ 0 c = W a 2 (29 + c) ∧ φ 3 c = W a 2 (9 + c) ∧ φ 4 c = W a 2 (18 + c)) {N : Int} (hN : 0 ≤ N ∧ N ≤ 90000) {R : Nat} (hx : x < R) (hr : (R : Int) ≤ φ 8 0) : dv_lp f_X12_inner_42b (W, φ 9 0, φ 8 0, a, (x : Int), (R : Int), N, 0) = Sum.inl (W, φ 9 0, φ 8 0, a, (x : Int), N + qs (fun y => qs (fun t => ip (VQ φ (φ 7 0).toNat x R y t)) 13) 12, (R : Int) + 1) := by
  have w9 := hk.1.2.2.1
  refine dv_inv (b := f_X12_inner_42b) (P := fun q => ∃ k : Nat, q = (W, φ 9 0, φ 8 0, a, (x : Int), (R : Int), N + qs (fun y => qs (fun t => ip (VQ φ (φ 7 0).toNat x R y t)) 13) k, (k : Int)) ∧ k ≤ 12) (Q := fun q => q = Sum.inl (W, φ 9 0, φ 8 0, a, (x : Int), N + qs (fun y => qs (fun t => ip (VQ φ (φ 7 0).toNat x R y t)) 13) 12, (R : Int) + 1)) (m := fun q => (12 - q.2.2.2.2.2.2.2).toNat) ?_ _ ⟨0, by show _ = (W, φ 9 0, φ 8 0, a, (x : Int), (R : Int), N + 0, ((0 : Nat) : Int)); rw [Int.add_zero]; rfl, by decide⟩
  rintro q ⟨k, rfl, k12⟩
  have hq := qs_b (f := fun y : Nat => qs (fun t => ip (VQ φ (φ 7 0).toNat x R y t)) 13) (n := k) (k := 13) (fun y _ => by
    have := qs_b (f := fun t : Nat => ip (VQ φ (φ 7 0).toNat x R y t)) (n := 13) (k := 1) (fun _ _ => ip_b)
    omega)
  rw [f_X12_inner_42e]
  unfold f_X12_inner_42c
  by_cases e : φ 9 0 ≤ (k : Int)
  · rw [if_pos e, bq]
    refine Or.inr ⟨_, rfl, ?_⟩
    rw [qs_z (n := k) (k := 12) k12 (fun y y0 _ => (qs_c (fun t _ => ip_0 (fun q => by have := q.1.2.2; omega))).trans qs_z0)]
  rw [if_neg e, bq, q_in54 hk h7 ec (by omega) hx hr (by omega)]
  refine Or.inl ⟨_, rfl, ⟨k + 1, ?_, by omega⟩, by dsimp only; omega⟩
  rw [Int.add_assoc, Int.natCast_succ]
  rfl
theorem q_in33 (hk : kgf φ) (h7 : φ 7 0 = W a 2 69) (ec : ∀ c, 0 ≤ c → c < 9 → φ 0 c = W a 2 (29 + c) ∧ φ 3 c = W a 2 (9 + c) ∧ φ 4 c = W a 2 (18 + c)) {N : Int} (hN : 0 ≤ N ∧ N ≤ 80000) (hx : (x : Int) < φ 8 0) : dv_lp f_X12_inner_33b (W, φ 9 0, φ 8 0, a, (x : Int), N, (x : Int) + 1) = Sum.inl (W, φ 9 0, φ 8 0, a, N + qs (fun r => qs (fun y => qs (fun t => ip (VQ φ (φ 7 0).toNat x r y t)) 13) 12) 13, (x : Int) + 1) := by
  have w8 := hk.1.2.1
  refine dv_inv (b := f_X12_inner_33b) (P := fun q => ∃ k : Nat, q = (W, φ 9 0, φ 8 0, a, (x : Int), N + qs (fun r => qs (fun y => qs (fun t => ip (VQ φ (φ 7 0).toNat x r y t)) 13) 12) k, (k : Int)) ∧ x + 1 ≤ k ∧ k ≤ 13) (Q := fun q => q = Sum.inl (W, φ 9 0, φ 8 0, a, N + qs (fun r => qs (fun y => qs (fun t => ip (VQ φ (φ 7 0).toNat x r y t)) 13) 12) 13, (x : Int) + 1)) (m := fun q => (13 - q.2.2.2.2.2.2).toNat) ?_ _ ⟨x + 1, ?_, Nat.le_refl _, by omega⟩
  · rintro q ⟨k, rfl, k1, k13⟩
    have hq := qs_b (f := fun r : Nat => qs (fun y => qs (fun t => ip (VQ φ (φ 7 0).toNat x r y t)) 13) 12) (n := k) (k := 156) (fun r _ => by
      have := qs_b (f := fun y : Nat => qs (fun t => ip (VQ φ (φ 7 0).toNat x r y t)) 13) (n := 12) (k := 13) (fun y _ => by
        have := qs_b (f := fun t : Nat => ip (VQ φ (φ 7 0).toNat x r y t)) (n := 13) (k := 1) (fun _ _ => ip_b)
        omega)
      omega)
    rw [f_X12_inner_33e]
    unfold f_X12_inner_33c
    by_cases e : φ 8 0 < (k : Int)
    · rw [if_pos e, bq]
      refine Or.inr ⟨_, rfl, ?_⟩
      rw [qs_z (n := k) (k := 13) k13 (fun r r0 _ => (qs_c (fun y _ => (qs_c (fun t _ => ip_0 (fun q => by have := q.1.2.1; omega))).trans qs_z0)).trans qs_z0)]
    rw [if_neg e, q_in42 hk h7 ec (by omega) (by omega) (by omega)]
    refine Or.inl ⟨_, rfl, ⟨k + 1, ?_, by omega, by omega⟩, by dsimp only; omega⟩
    rw [Int.add_assoc, Int.natCast_succ]
    rfl
  · rw [(qs_z (f := fun r : Nat => qs (fun y => qs (fun t => ip (VQ φ (φ 7 0).toNat x r y t)) 13) 12) (n := 0) (k := x + 1) (Nat.zero_le _) (fun r _ hr => (qs_c (fun y _ => (qs_c (fun t _ => ip_0 (fun q => by have := q.1.1; omega))).trans qs_z0)).trans qs_z0)).trans (show qs _ 0 = (0 : Int) from rfl), Int.add_zero, Int.natCast_succ]
theorem q_inner (hk : kgf φ) (h7 : φ 7 0 = W a 2 69) (h8 : φ 8 0 = W a 2 67) (h9 : φ 9 0 = W a 2 68) (ec : ∀ c, 0 ≤ c → c < 9 → φ 0 c = W a 2 (29 + c) ∧ φ 3 c = W a 2 (9 + c) ∧ φ 4 c = W a 2 (18 + c)) : f_X12_inner W a = (q4 (fun x r y t => ip (VQ φ (φ 7 0).toNat x r y t)) - ip (Qr φ (φ 7 0).toNat 0 (φ 8 0) 0 (φ 9 0)), ()) := by
  have w8 := hk.1.2.1
  have w9 := hk.1.2.2.1
  unfold f_X12_inner
  rw [bq, bq, ← h8, ← h9]
  refine dv_inv (b := f_X12_inner_21b) (P := fun q => ∃ k : Nat, q = (W, φ 9 0, φ 8 0, a, qs (fun x => qs (fun r => qs (fun y => qs (fun t => ip (VQ φ (φ 7 0).toNat x r y t)) 13) 12) 13) k, (k : Int)) ∧ k ≤ 12) (Q := fun q => q = (q4 (fun x r y t => ip (VQ φ (φ 7 0).toNat x r y t)) - ip (Qr φ (φ 7 0).toNat 0 (φ 8 0) 0 (φ 9 0)), ())) (m := fun q => (12 - q.2.2.2.2.2).toNat) ?_ _ ⟨0, rfl, by decide⟩
  rintro q ⟨k, rfl, k12⟩
  have hq := qs_b (f := fun x : Nat => qs (fun r => qs (fun y => qs (fun t => ip (VQ φ (φ 7 0).toNat x r y t)) 13) 12) 13) (n := k) (k := 2028) (fun x _ => by
    have := qs_b (f := fun r : Nat => qs (fun y => qs (fun t => ip (VQ φ (φ 7 0).toNat x r y t)) 13) 12) (n := 13) (k := 156) (fun r _ => by
      have := qs_b (f := fun y : Nat => qs (fun t => ip (VQ φ (φ 7 0).toNat x r y t)) 13) (n := 12) (k := 13) (fun y _ => by
        have := qs_b (f := fun t : Nat => ip (VQ φ (φ 7 0).toNat x r y t)) (n := 13) (k := 1) (fun _ _ => ip_b)
        omega)
      omega)
    omega)
  rw [f_X12_inner_21e]
  unfold f_X12_inner_21c
  by_cases e : φ 8 0 ≤ (k : Int)
  · have s2 := qm_b (x := φ 8 0) (y := φ 9 0) (a := 12) (b := 12) (by omega) (by omega) (by omega) (by omega)
    have ez : q4 (fun x r y t => ip (VQ φ (φ 7 0).toNat x r y t)) = qs (fun x => qs (fun r => qs (fun y => qs (fun t => ip (VQ φ (φ 7 0).toNat x r y t)) 13) 12) 13) k := qs_z (n := k) (k := 12) k12 (fun x x0 _ => (qs_c (fun r _ => (qs_c (fun y _ => (qs_c (fun t _ => ip_0 (fun q => by have := q.1.1; have := q.1.2.1; omega))).trans qs_z0)).trans qs_z0)).trans qs_z0)
    have wq := w_Q (φ := φ) (n := (φ 7 0).toNat) (l := 0) (r := φ 8 0) (b := 0) (t := φ 9 0) (by rw [Int.sub_zero, Int.sub_zero]; exact s2.1)
    rw [Int.sub_zero, Int.sub_zero] at wq
    rw [if_pos e, dv_bn2 (q_within hk h7 ec), bq, ez]
    refine Or.inr ?_
    by_cases g : Qr φ (φ 7 0).toNat 0 (φ 8 0) 0 (φ 9 0)
    · rw [if_neg (fun q => q (wq.mpr g)), bq, dv_sub_ok (by omega) (by omega) (by omega) (by omega) (by decide) (by decide), ip_1 g]
      exact ⟨_, rfl, rfl⟩
    · rw [if_pos (fun q => g (wq.mp q)), bq, ip_0 g]
      exact ⟨_, rfl, rfl⟩
  rw [if_neg e, bq, q_in33 hk h7 ec (by omega) (by omega)]
  refine Or.inl ⟨_, rfl, ⟨k + 1, ?_, by omega⟩, by dsimp only; omega⟩
  rw [Int.natCast_succ]
  rfl
/-- the class: whether a set fills its bounds -/
theorem q_iih (hk : kgf (V fl)) (hm : m < 2 ^ (V fl 7 0).toNat) (tw : two (tb m) (V fl 7 0).toNat) : f_X1_isInnerHall V fl (m : Int) = (ip (Pc (V fl) (V fl 7 0).toNat m), ()) := by
  have n9 := hk.1.1
  have w8 := hk.1.2.1
  have w9 := hk.1.2.2.1
  have m512 : m < 512 := Nat.lt_of_lt_of_le hm (show 2 ^ (V fl 7 0).toNat ≤ 2 ^ 9 from Nat.pow_le_pow_right (by decide) (by omega))
  have key : ∀ i : Nat, i < (V fl 7 0).toNat → V fl 3 (i : Int) ≠ -1 → (0 ≤ V fl 3 (i : Int) ∧ 0 ≤ V fl 4 (i : Int)) ∧ (1 ≤ V fl 0 (i : Int) ∧ V fl 0 (i : Int) ≤ 12) ∧ V fl 3 (i : Int) + V fl 0 (i : Int) ≤ 12 ∧ V fl 4 (i : Int) + V fl 0 (i : Int) ≤ 12 := fun i hi q1 => by
    have q2 := hk.1.2.2.2 i (by omega) (by omega)
    have q3 := hk.2.2.1 i (by omega) (by omega)
    have q4 := hk.2.2.2.1 i (by omega) (by omega) q1
    have q5 := q2.2.resolve_left q1
    omega
  unfold f_X1_isInnerHall
  refine dv_inv (b := f_X1_isInnerHall_18b) (P := fun q => ∃ (k : Nat) (L R B T : Int), q = (V, fl, (m : Int), L, R, B, T, ar (V fl) (tb m) k, (k : Int)) ∧ k ≤ (V fl 7 0).toNat ∧ ((0 ≤ L ∧ L ≤ 12) ∧ (0 ≤ R ∧ R ≤ 12) ∧ (0 ≤ B ∧ B ≤ 12) ∧ 0 ≤ T ∧ T ≤ 12) ∧ (∀ i : Nat, i < k → tb m i → V fl 3 (i : Int) ≠ -1 ∧ (L ≤ V fl 3 (i : Int) ∧ V fl 3 (i : Int) + V fl 0 (i : Int) ≤ R) ∧ B ≤ V fl 4 (i : Int) ∧ V fl 4 (i : Int) + V fl 0 (i : Int) ≤ T) ∧ (L = 12 ∨ ∃ i : Nat, i < k ∧ tb m i ∧ V fl 3 (i : Int) = L) ∧ (R = 0 ∨ ∃ i : Nat, i < k ∧ tb m i ∧ V fl 3 (i : Int) + V fl 0 (i : Int) = R) ∧ (B = 12 ∨ ∃ i : Nat, i < k ∧ tb m i ∧ V fl 4 (i : Int) = B) ∧ (T = 0 ∨ ∃ i : Nat, i < k ∧ tb m i ∧ V fl 4 (i : Int) + V fl 0 (i : Int) = T)) (Q := fun q => q = (ip (Pc (V fl) (V fl 7 0).toNat m), ())) (m := fun q => (9 - q.2.2.2.2.2.2.2.2).toNat) ?_ _ ⟨0, 12, 0, 12, 0, rfl, by omega, by decide, fun i hi => absurd hi (by omega), Or.inl rfl, Or.inl rfl, Or.inl rfl, Or.inl rfl⟩
  rintro q ⟨k, L, R, B, T, rfl, k9, ⟨⟨L0, L1⟩, ⟨R0, R1⟩, ⟨B0, B1⟩, T0, T1⟩, hb, hL, hR, hB, hT⟩
  have hq : Unit → (_ ∧ _ ∧ _ ∧ _) := fun _ => ⟨hL, hR, hB, hT⟩
  clear hL hR hB hT
  have ha := ar_b (φ := V fl) (S := tb m) (n := k) (fun i hi => ⟨(hk.1.2.2.2 i (by omega) (by omega)).1.1, (hk.1.2.2.2 i (by omega) (by omega)).1.2⟩)
  have e138 : ∀ u1 u2 u3 u4 u5 : Int, f_X1_isInnerHall_138 V fl (m : Int) (k : Int) u1 u2 u3 u4 u5 = Sum.inl (V, fl, (m : Int), u1, u2, u3, u4, u5, (k : Int) + 1) := fun _ _ _ _ _ => by
    unfold f_X1_isInnerHall_138
    rw [bq]
  rw [f_X1_isInnerHall_18e]
  unfold f_X1_isInnerHall_18c
  rw [bq]
  by_cases e : V fl 7 0 ≤ (k : Int)
  · have ek : (V fl 7 0).toNat = k := by omega
    rw [if_pos e]
    rw [ek] at tw key ⊢
    obtain ⟨i, hi, si⟩ := two_ne tw
    obtain ⟨q1, ⟨q2, q3⟩, q4, q5⟩ := hb i hi si
    have q6 := key i (by omega) q1
    have bb : BB (V fl) (tb m) k L R B T := ⟨fun i hi si => (hb i hi si).2, (hq ()).1.resolve_left (by omega), (hq ()).2.1.resolve_left (by omega), (hq ()).2.2.1.resolve_left (by omega), (hq ()).2.2.2.resolve_left (by omega)⟩
    have s2 := qm_b (x := R - L) (y := T - B) (a := 12) (b := 12) (by omega) (by omega) (by omega) (by omega)
    have s3 := qm_b (x := V fl 8 0) (y := V fl 9 0) (a := 12) (b := 12) (by omega) (by omega) (by omega) (by omega)
    rw [bq, bq, bq, dv_sub_ok (by omega) (by omega) (by omega) (by omega) (by omega) (by omega), dv_sub_ok (by omega) (by omega) (by omega) (by omega) (by omega) (by omega), dv_mul_ok (by omega) (by omega) (by omega) (by omega) (by omega) (by omega)]
    right
    by_cases g : (R - L) * (T - B) = ar (V fl) (tb m) k
    · rw [if_neg (fun q => q g), bq, bq, bq]
      by_cases g2 : V fl 8 0 * V fl 9 0 ≤ ar (V fl) (tb m) k
      · rw [if_pos g2, ip_0 (fun q => by have := q.2; omega)]
        exact ⟨_, rfl, rfl⟩
      · rw [if_neg g2, ip_1 (show Pc (V fl) k m from ⟨⟨L, R, B, T, tw, fun i hi si => (hb i hi si).1, bb, g.symm⟩, by omega⟩)]
        exact ⟨_, rfl, rfl⟩
    · rw [if_pos g, ip_0 (fun q => by
        obtain ⟨⟨l, r, b, t, -, -, k3, k4⟩, -⟩ := q
        obtain ⟨⟨e1, e2⟩, e3, e4⟩ := BB_u k3 bb
        rw [e1, e2, e3, e4] at k4
        exact g k4.symm)]
      exact ⟨_, rfl, rfl⟩
  rw [if_neg e, bq, bq]
  have bit : dv_and (dv_shr (m : Int) (k : Int)) 1 = 0 ↔ ¬ tb m k := by
    rw [and_1z, qb_shr (by omega) (by omega)]
    have h := qb_tb ⟨m, m512⟩ ⟨k, by omega⟩
    try simp only at h
    rw [Int.toNat_natCast, h]
    unfold tb
    exact Bool.not_eq_true _ ▸ Iff.rfl
  by_cases g : tb m k
  case neg =>
    rw [if_neg (fun q => q (bit.mpr g)), e138]
    refine Or.inl ⟨_, rfl, ⟨k + 1, L, R, B, T, ?_, by omega, ⟨⟨L0, L1⟩, ⟨R0, R1⟩, ⟨B0, B1⟩, T0, T1⟩, fun i hi si => ?_, ?_, ?_, ?_, ?_⟩, by dsimp only; omega⟩
    · show _ = (V, fl, (m : Int), L, R, B, T, ar (V fl) (tb m) k + ip (tb m k) * (V fl 0 (k : Int) * V fl 0 (k : Int)), ((k + 1 : Nat) : Int))
      rw [ip_0 g, Int.zero_mul, Int.add_zero, Int.natCast_succ]
    · by_cases ei : i = k
      · subst ei; exact absurd si g
      · exact hb i (by omega) si
    · exact (hq ()).1.imp id (fun ⟨i, q1, q2⟩ => ⟨i, by omega, q2⟩)
    · exact (hq ()).2.1.imp id (fun ⟨i, q1, q2⟩ => ⟨i, by omega, q2⟩)
    · exact (hq ()).2.2.1.imp id (fun ⟨i, q1, q2⟩ => ⟨i, by omega, q2⟩)
    · exact (hq ()).2.2.2.imp id (fun ⟨i, q1, q2⟩ => ⟨i, by omega, q2⟩)
  rw [if_pos (fun q => bit.mp q g)]
  by_cases lz : V fl 3 (k : Int) = -1
  · rw [dv_bn2 (il_0 lz), if_neg (fun q => q rfl), ip_0 (fun q => by
      obtain ⟨⟨l, r, b, t, -, k2, -⟩, -⟩ := q
      exact k2 k (by omega) g lz)]
    exact Or.inr ⟨_, rfl, rfl⟩
  have q6 := key k (by omega) lz
  have s2 := qm_b (x := V fl 0 (k : Int)) (y := V fl 0 (k : Int)) (a := 12) (b := 12) (by omega) (by omega) (by omega) (by omega)
  rw [dv_bn2 (il_1 (by omega) (by omega) lz), if_pos (by decide), bq, bq, bq, bq, bq, bq, bq, bq, bq, bq, bq, bq, bq, bq, bq, bq, e138, dv_add_ok (a := V fl 3 (k : Int)) (by omega) (by omega) (by omega) (by omega) (by omega) (by omega), dv_add_ok (a := V fl 4 (k : Int)) (by omega) (by omega) (by omega) (by omega) (by omega) (by omega), dv_add_ok (by omega) (by omega) (by omega) (by omega) (by omega) (by omega)]
  refine Or.inl ⟨_, rfl, ⟨k + 1, min L (V fl 3 (k : Int)), max R (V fl 3 (k : Int) + V fl 0 (k : Int)), min B (V fl 4 (k : Int)), max T (V fl 4 (k : Int) + V fl 0 (k : Int)), ?_, by omega, ⟨⟨by omega, by omega⟩, ⟨by omega, by omega⟩, ⟨by omega, by omega⟩, by omega, by omega⟩, fun i hi si => ?_, ?_, ?_, ?_, ?_⟩, by dsimp only; omega⟩
  · show _ = (V, fl, (m : Int), _, _, _, _, ar (V fl) (tb m) k + ip (tb m k) * (V fl 0 (k : Int) * V fl 0 (k : Int)), ((k + 1 : Nat) : Int))
    rw [ip_1 g, Int.one_mul, Int.natCast_succ]
  · by_cases ei : i = k
    · subst ei
      exact ⟨lz, ⟨by omega, by omega⟩, by omega, by omega⟩
    · obtain ⟨q1, ⟨q2, q3⟩, q4, q5⟩ := hb i (by omega) si
      exact ⟨q1, ⟨by omega, by omega⟩, by omega, by omega⟩
  · by_cases c : V fl 3 (k : Int) ≤ L
    · exact Or.inr ⟨k, by omega, g, by omega⟩
    · rw [show min L (V fl 3 (k : Int)) = L by omega]
      exact (hq ()).1.imp id (fun ⟨i, q1, q2⟩ => ⟨i, by omega, q2⟩)
  · by_cases c : R ≤ V fl 3 (k : Int) + V fl 0 (k : Int)
    · exact Or.inr ⟨k, by omega, g, by omega⟩
    · rw [show max R (V fl 3 (k : Int) + V fl 0 (k : Int)) = R by omega]
      exact (hq ()).2.1.imp id (fun ⟨i, q1, q2⟩ => ⟨i, by omega, q2⟩)
  · by_cases c : V fl 4 (k : Int) ≤ B
    · exact Or.inr ⟨k, by omega, g, by omega⟩
    · rw [show min B (V fl 4 (k : Int)) = B by omega]
      exact (hq ()).2.2.1.imp id (fun ⟨i, q1, q2⟩ => ⟨i, by omega, q2⟩)
  · by_cases c : T ≤ V fl 4 (k : Int) + V fl 0 (k : Int)
    · exact Or.inr ⟨k, by omega, g, by omega⟩
    · rw [show max T (V fl 4 (k : Int) + V fl 0 (k : Int)) = T by omega]
      exact (hq ()).2.2.2.imp id (fun ⟨i, q1, q2⟩ => ⟨i, by omega, q2⟩)
theorem q_innerHalls (hk : kgf (V fl)) : f_X1_innerHalls V fl = (qs (fun m => ip (Pc (V fl) (V fl 7 0).toNat m)) (2 ^ (V fl 7 0).toNat), ()) := by
  have n9 := hk.1.1
  have p9 : 2 ^ (V fl 7 0).toNat ≤ 512 := (show 2 ^ (V fl 7 0).toNat ≤ 2 ^ 9 from Nat.pow_le_pow_right (by decide) (by omega))
  have sh : dv_shl 1 (V fl 7 0) = ((2 ^ (V fl 7 0).toNat : Nat) : Int) := by
    have h := sh_two ⟨(V fl 7 0).toNat, by omega⟩
    simp only [show (((V fl 7 0).toNat : Nat) : Int) = V fl 7 0 by omega] at h
    exact h
  unfold f_X1_innerHalls
  refine dv_inv (b := f_X1_innerHalls_4b) (P := fun q => ∃ k : Nat, q = (V, fl, qs (fun m => ip (Pc (V fl) (V fl 7 0).toNat m)) k, (k : Int)) ∧ k ≤ 2 ^ (V fl 7 0).toNat) (Q := fun q => q = (qs (fun m => ip (Pc (V fl) (V fl 7 0).toNat m)) (2 ^ (V fl 7 0).toNat), ())) (m := fun q => (512 - q.2.2.2).toNat) ?_ _ ⟨0, rfl, Nat.zero_le _⟩
  rintro q ⟨k, rfl, k1⟩
  have hq := qs_b (f := fun m : Nat => ip (Pc (V fl) (V fl 7 0).toNat m)) (n := k) (k := 1) (fun _ _ => ip_b)
  have e33 : ∀ z : Int, f_X1_innerHalls_33 V fl (k : Int) z = Sum.inl (V, fl, z, (k : Int) + 1) := fun z => by
    unfold f_X1_innerHalls_33
    rw [bq]
  rw [f_X1_innerHalls_4e]
  unfold f_X1_innerHalls_4c
  rw [bq, bq, sh]
  by_cases e : ((2 ^ (V fl 7 0).toNat : Nat) : Int) ≤ (k : Int)
  · rw [if_pos e, show 2 ^ (V fl 7 0).toNat = k by omega]
    exact Or.inr ⟨_, rfl, rfl⟩
  rw [if_neg e, bq2]
  left
  have tw : (f_J6_bitCount_0f7a4 V (k : Int)).1 < 2 ↔ ¬ two (tb k) (V fl 7 0).toNat := by
    have h := bc_two ⟨k, by omega⟩
    try simp only at h
    have e0 : f_J6_bitCount_0f7a4 V (k : Int) = f_J6_bitCount_0f7a4 (fun _ _ _ => 0) (k : Int) := rfl
    rw [e0, h]
    have lt : ∀ i : Nat, k.testBit i = true → i < (V fl 7 0).toNat := fun i hi => Classical.byContradiction (fun c => by
      rw [Nat.testBit_lt_two_pow (Nat.lt_of_lt_of_le (show k < 2 ^ (V fl 7 0).toNat by omega) (Nat.pow_le_pow_right (by decide) (by omega)))] at hi
      cases hi)
    constructor
    · rintro w ⟨i, j, h1, h2, h3, h4⟩
      exact w ⟨⟨i, by omega⟩, ⟨j, by omega⟩, h1, h3, h4⟩
    · rintro w ⟨i, j, h1, h3, h4⟩
      exact w ⟨i.1, j.1, h1, lt _ h4, h3, h4⟩
  have no : ¬ Pc (V fl) (V fl 7 0).toNat k → ∃ s, (Sum.inl (V, fl, qs (fun m => ip (Pc (V fl) (V fl 7 0).toNat m)) k, (k : Int) + 1) : Sum (dV × Int × Int × Int) dP) = Sum.inl s ∧ (∃ k : Nat, s = (V, fl, qs (fun m => ip (Pc (V fl) (V fl 7 0).toNat m)) k, (k : Int)) ∧ k ≤ 2 ^ (V fl 7 0).toNat) ∧ (512 - s.2.2.2).toNat < (512 - (k : Int)).toNat := fun g => by
    refine ⟨_, rfl, ⟨k + 1, ?_, by omega⟩, by dsimp only; omega⟩
    show _ = (V, fl, qs (fun m => ip (Pc (V fl) (V fl 7 0).toNat m)) k + ip (Pc (V fl) (V fl 7 0).toNat k), ((k + 1 : Nat) : Int))
    rw [ip_0 g, Int.add_zero, Int.natCast_succ]
  by_cases g : two (tb k) (V fl 7 0).toNat
  case neg =>
    rw [if_pos (tw.mpr g), e33]
    exact no (fun q => by
      obtain ⟨⟨_, _, _, _, q1, -⟩, -⟩ := q
      exact g q1)
  rw [if_neg (fun q => tw.mp q g), dv_bn2 (q_iih hk (by omega) g)]
  by_cases g2 : Pc (V fl) (V fl 7 0).toNat k
  · rw [ip_1 g2, if_neg (by decide), bq, e33, dv_add_ok (by omega) (by omega) (by omega) (by omega) (by decide) (by decide)]
    refine ⟨_, rfl, ⟨k + 1, ?_, by omega⟩, by dsimp only; omega⟩
    show _ = (V, fl, qs (fun m => ip (Pc (V fl) (V fl 7 0).toNat m)) k + ip (Pc (V fl) (V fl 7 0).toNat k), ((k + 1 : Nat) : Int))
    rw [ip_1 g2, Int.natCast_succ]
  · rw [ip_0 g2, if_pos rfl, e33]
    exact no g2
theorem L_inner (h : RR A a V W) : ∃ u, f_X11_inner V (A 0) = (u, ()) ∧ f_X12_inner W a = (u, ()) := by
  obtain ⟨g0, g1, -⟩ := RR_G h
  obtain ⟨kk, e7, e8, e9, e10, e50, e51, e52, ec⟩ := RR_n h
  refine ⟨_, ?_, q_inner kk e7 e8 e9 (fun c c0 c9 => ⟨(ec c c0 c9).1, (ec c c0 c9).2.2.2.1, (ec c c0 c9).2.2.2.2⟩)⟩
  unfold f_X11_inner
  rw [bq, g0, bq, g1, bq2, q_innerHalls kk, inner_sum kk rfl]
end QUE
section QUF
variable {V V1 U1 U2 : dV} {r1 r2 : Int}
/-- both answer alike; what they leave is told otherwise -/
theorem glue_E {fV fW : dV → dR} (L : ∃ (V' W' : dV) (u : Int), fV V = (V', u) ∧ fW V1 = (W', u)) (e1 : fV V = (U1, r1)) (e2 : fW V1 = (U2, r2)) : r1 = r2 := by
  obtain ⟨V', W', u, k1, k2⟩ := L
  rw [e1] at k1
  rw [e2] at k2
  exact (congrArg Prod.snd k1).trans (congrArg Prod.snd k2).symm
end QUF
end
