section QSK
variable {V V' V1 W W' W1 : dV} {a b b' c z : Int} {A : Nat → Int} {K K' : Int → Int} {L L' D : Nat → Nat → Bool} {M M' : Nat → Bool} {k : Nat}
/-- what of the class's objects is as it was -/
def cf (A : Nat → Int) (L : Nat → Nat → Bool) (V V' : dV) : Prop := ∀ (i m : Nat) (z : Int), i < 38 → m < 20 → L i m = false → V' (A i) m z = V (A i) m z
def ag (A : Nat → Int) (D : Nat → Nat → Bool) (V V' : dV) : Prop := ∀ (i m : Nat) (z : Int), i < 38 → m < 20 → D i m = true → V' (A i) m z = V (A i) m z
def apart (L D : Nat → Nat → Bool) : Bool := (List.range 38).all fun i => (List.range 20).all fun m => !(L i m && D i m)
theorem apart_e (h : apart L D = true) (i m : Nat) (hi : i < 38) (hm : m < 20) (hd : D i m = true) : L i m = false := by
  unfold apart at h
  have h1 := List.all_eq_true.mp h i (List.mem_range.mpr hi)
  have h2 := List.all_eq_true.mp h1 m (List.mem_range.mpr hm)
  rw [hd] at h2
  cases hL : L i m with
  | false => rfl
  | true => rw [hL] at h2; cases h2
theorem cf_ag (f : cf A L V V') (h : apart L D = true) : ag A D V V' := fun i m z hi hm hd => f i m z hi hm (apart_e h i m hi hm hd)
theorem cf_r : cf A L V V := fun _ _ _ _ _ _ => rfl
theorem cf_t (f : cf A L V V') (g : cf A L V' V1) : cf A L V V1 := fun i m z hi hm h => (g i m z hi hm h).trans (f i m z hi hm h)
theorem cf_m (f : cf A L V V') (h : ∀ i m, L' i m = false → L i m = false) : cf A L' V V' := fun i m z hi hm hL => f i m z hi hm (h i m hL)
def inj (A : Nat → Int) : Prop := (∀ i j : Nat, i < 38 → j < 38 → A i = A j → i = j) ∧ ∀ i : Nat, i < 38 → A i ≠ -1
theorem inj_n (h : inj A) {i j : Nat} (hi : i < 38) (hj : j < 38) (n : i ≠ j) : A i ≠ A j := fun e => n (h.1 i j hi hj e)
theorem cf_u (hA : inj A) {j n : Nat} {i y : Int} (hj : j < 38) (h : L j n = true) : cf A L V (dv_u V (A j) n i y) := fun i' m z hi hm hL => by
  unfold dv_u
  rw [if_neg]
  rintro ⟨e1, e2, -⟩
  have := hA.1 i' j hi hj e1
  subst this
  subst e2
  rw [h] at hL
  cases hL
def wf (a : Int) (M : Nat → Bool) (W W' : dV) : Prop := ∀ (m : Nat) (z : Int), M m = false → W' a m z = W a m z
theorem wf_r : wf a M W W := fun _ _ _ => rfl
theorem wf_t (f : wf a M W W') (g : wf a M W' W1) : wf a M W W1 := fun m z h => (g m z h).trans (f m z h)
theorem wf_m (f : wf a M W W') (h : ∀ m, M' m = false → M m = false) : wf a M' W W' := fun m z hM => f m z (h m hM)
theorem wf_u {n : Nat} {i y : Int} (h : M n = true) : wf a M W (dv_u W a n i y) := fun m z hM => by
  unfold dv_u
  rw [if_neg]
  rintro ⟨-, e2, -⟩
  subst e2
  rw [h] at hM
  cases hM
/-- the class's objects -/
def G (A : Nat → Int) (V : dV) : Prop := (V (A 0) 0 0 = A 1 ∧ V (A 0) 1 0 = A 2 ∧ V (A 0) 1 1 = A 3 ∧ V (A 0) 3 0 = A 7 ∧ V (A 0) 4 0 = A 8 ∧ V (A 0) 5 0 = A 9 ∧ V (A 0) 6 0 = A 10 ∧ V (A 0) 7 0 = A 11 ∧ V (A 0) 8 0 = A 12 ∧ V (A 0) 9 0 = A 13 ∧ V (A 0) 10 0 = A 15) ∧ V (A 13) 0 0 = A 14 ∧ V (A 15) 2 0 = A 16 ∧ ∀ k : Nat, k < 3 → V (A (1 + k)) 0 0 = A (4 + k) ∧ ∀ t : Nat, t < 6 → V (A (1 + k)) 1 (t : Int) = A (20 + 6 * k + t)
def G_D (i m : Nat) : Bool := (i == 0 && (m ≤ 10 && m != 2)) || (i == 13 && m == 0) || (i == 15 && m == 2) || (1 ≤ i && i ≤ 3 && m ≤ 1)
theorem G_c (h : G A V) (g : ag A G_D V V') : G A V' := by
  obtain ⟨⟨h0, h1, h2, h3, h4, h5, h6, h7, h8, h9, h10⟩, h11, h12, h13⟩ := h
  refine ⟨⟨?_, ?_, ?_, ?_, ?_, ?_, ?_, ?_, ?_, ?_, ?_⟩, ?_, ?_, fun k hk => ⟨?_, fun t ht => ?_⟩⟩
  · rw [g 0 0 0 (by decide) (by decide) rfl]; exact h0
  · rw [g 0 1 0 (by decide) (by decide) rfl]; exact h1
  · rw [g 0 1 1 (by decide) (by decide) rfl]; exact h2
  · rw [g 0 3 0 (by decide) (by decide) rfl]; exact h3
  · rw [g 0 4 0 (by decide) (by decide) rfl]; exact h4
  · rw [g 0 5 0 (by decide) (by decide) rfl]; exact h5
  · rw [g 0 6 0 (by decide) (by decide) rfl]; exact h6
  · rw [g 0 7 0 (by decide) (by decide) rfl]; exact h7
  · rw [g 0 8 0 (by decide) (by decide) rfl]; exact h8
  · rw [g 0 9 0 (by decide) (by decide) rfl]; exact h9
  · rw [g 0 10 0 (by decide) (by decide) rfl]; exact h10
  · rw [g 13 0 0 (by decide) (by decide) rfl]; exact h11
  · rw [g 15 2 0 (by decide) (by decide) rfl]; exact h12
  · rw [g (1 + k) 0 0 (by omega) (by decide) (by unfold G_D; simp; omega)]; exact (h13 k hk).1
  · rw [g (1 + k) 1 t (by omega) (by decide) (by unfold G_D; simp; omega)]; exact (h13 k hk).2 t ht
-- the floor of a stand
def flR (fl : Int) (V : dV) (K : Int → Int) (b : Int) : Prop := ef (V fl) (kf K b) ∧ kgf (V fl)
def fl_eq (φ ψ : Nat → Int → Int) : Prop := ∀ (j : Nat) (c : Int), j ≤ 10 → j ≠ 6 → φ j c = ψ j c
theorem kf_eq (h : ∀ z, (0 ≤ z ∧ z < 47) ∨ (65 ≤ z ∧ z < 70) → K' (b' + z) = K (b + z)) : (∀ c, 0 ≤ c → c < 9 → kf K' b' 0 c = kf K b 0 c ∧ kf K' b' 1 c = kf K b 1 c ∧ kf K' b' 2 c = kf K b 2 c ∧ kf K' b' 3 c = kf K b 3 c ∧ kf K' b' 4 c = kf K b 4 c) ∧ (kf K' b' 5 0 = kf K b 5 0 ∧ kf K' b' 5 1 = kf K b 5 1 ∧ kf K' b' 5 2 = kf K b 5 2) ∧ kf K' b' 7 0 = kf K b 7 0 ∧ kf K' b' 8 0 = kf K b 8 0 ∧ kf K' b' 9 0 = kf K b 9 0 ∧ kf K' b' 10 0 = kf K b 10 0 := by
  refine ⟨fun c c0 c9 => ⟨h _ (by omega), h _ (by omega), h _ (by omega), h _ (by omega), h _ (by omega)⟩, ⟨?_, ?_, ?_⟩, h _ (by omega), h _ (by omega), h _ (by omega), h _ (by omega)⟩
  · show (if (0 : Int) = 0 then K' (b' + 28) else K' (b' + (64 + 0))) = (if (0 : Int) = 0 then K (b + 28) else K (b + (64 + 0)))
    rw [if_pos rfl, if_pos rfl]; exact h _ (by omega)
  · show (if (1 : Int) = 0 then K' (b' + 28) else K' (b' + (64 + 1))) = (if (1 : Int) = 0 then K (b + 28) else K (b + (64 + 1)))
    rw [if_neg (by decide), if_neg (by decide)]; exact h _ (by omega)
  · show (if (2 : Int) = 0 then K' (b' + 28) else K' (b' + (64 + 2))) = (if (2 : Int) = 0 then K (b + 28) else K (b + (64 + 2)))
    rw [if_neg (by decide), if_neg (by decide)]; exact h _ (by omega)
theorem ef_k {φ : Nat → Int → Int} (e : ef φ (kf K b)) (h : ∀ z, (0 ≤ z ∧ z < 47) ∨ (65 ≤ z ∧ z < 70) → K' (b' + z) = K (b + z)) : ef φ (kf K' b') := by
  obtain ⟨k1, ⟨k2, k3, k4⟩, k5, k6, k7, k8⟩ := kf_eq h
  obtain ⟨e1, ⟨e2, e3, e4⟩, e5, e6, e7, e8⟩ := e
  refine ⟨fun c c0 c9 => ?_, ⟨by rw [k2]; exact e2, by rw [k3]; exact e3, by rw [k4]; exact e4⟩, by rw [k5]; exact e5, by rw [k6]; exact e6, by rw [k7]; exact e7, by rw [k8]; exact e8⟩
  obtain ⟨l0, l1, l2, l3, l4⟩ := k1 c c0 c9
  rw [l0, l1, l2, l3, l4]
  exact e1 c c0 c9
theorem fl_ef {φ φ' ψ : Nat → Int → Int} (h : fl_eq φ φ') (e : ef φ ψ) : ef φ' ψ := by
  obtain ⟨e1, ⟨e2, e3, e4⟩, e5, e6, e7, e8⟩ := e
  refine ⟨fun c c0 c9 => ?_, ⟨?_, ?_, ?_⟩, ?_, ?_, ?_, ?_⟩
  · rw [← h 0 c (by decide) (by decide), ← h 1 c (by decide) (by decide), ← h 2 c (by decide) (by decide), ← h 3 c (by decide) (by decide), ← h 4 c (by decide) (by decide)]; exact e1 c c0 c9
  · rw [← h 5 0 (by decide) (by decide)]; exact e2
  · rw [← h 5 1 (by decide) (by decide)]; exact e3
  · rw [← h 5 2 (by decide) (by decide)]; exact e4
  · rw [← h 7 0 (by decide) (by decide)]; exact e5
  · rw [← h 8 0 (by decide) (by decide)]; exact e6
  · rw [← h 9 0 (by decide) (by decide)]; exact e7
  · rw [← h 10 0 (by decide) (by decide)]; exact e8
theorem cov_eq {φ φ' : Nat → Int → Int} (h : fl_eq φ φ') {px py : Int} : cov φ' c px py ↔ cov φ c px py := by
  unfold cov
  rw [h 0 c (by decide) (by decide), h 3 c (by decide) (by decide), h 4 c (by decide) (by decide)]
theorem fl_kg {φ φ' : Nat → Int → Int} (h : fl_eq φ φ') (g : kgf φ) : kgf φ' := by
  have e0 := fun c => h 0 c (by decide) (by decide)
  have e1 := fun c => h 1 c (by decide) (by decide)
  have e2 := fun c => h 2 c (by decide) (by decide)
  have e3 := fun c => h 3 c (by decide) (by decide)
  have e4 := fun c => h 4 c (by decide) (by decide)
  have e5 := fun c => h 5 c (by decide) (by decide)
  have e7 := h 7 0 (by decide) (by decide)
  have e8 := h 8 0 (by decide) (by decide)
  have e9 := h 9 0 (by decide) (by decide)
  have e10 := h 10 0 (by decide) (by decide)
  obtain ⟨⟨b7, b8, b9, bc⟩, gd, gs, gl, gw, gp, gy, gm, gz⟩ := g
  refine ⟨⟨by rw [← e7]; exact b7, by rw [← e8]; exact b8, by rw [← e9]; exact b9, fun c c0 c1 => ?_⟩, fun c d px py c0 c1 d0 d1 hc hd => gd c d px py c0 (by rw [e7]; exact c1) d0 (by rw [e7]; exact d1) ((cov_eq h).mp hc) ((cov_eq h).mp hd), fun c c0 c1 => ?_, fun c c0 c1 hx => ?_, by rw [← e8, ← e9]; exact gw, by rw [← e10]; exact gp, by rw [← e5]; exact gy, by rw [← e5]; exact gm, by rw [← e5]; exact gz⟩
  · rw [← e0, ← e3, ← e4]; exact bc c c0 (by rw [e7]; exact c1)
  · rw [← e0, ← e1, ← e2]; exact gs c c0 (by rw [e7]; exact c1)
  · rw [← e3] at hx
    rw [← e3, ← e0, ← e4, ← e8, ← e9]; exact gl c c0 (by rw [e7]; exact c1) hx
theorem flR_c {fl fl' : Int} (h : flR fl V K b) (h1 : fl_eq (V fl) (V' fl')) (h2 : ∀ z, (0 ≤ z ∧ z < 47) ∨ (65 ≤ z ∧ z < 70) → K' (b' + z) = K (b + z)) : flR fl' V' K' b' := ⟨fl_ef h1 (ef_k h.1 h2), fl_kg h1 h.2⟩
-- what was seen
def seR (s : Int) (V : dV) (K : Int → Int) (b : Int) : Prop := V s 7 0 = K (b + 70) ∧ (0 ≤ V s 7 0 ∧ V s 7 0 ≤ 6) ∧ ∀ z, 0 ≤ z → z < V s 7 0 → V s 2 z = K (b + (47 + 3 * z)) ∧ V s 3 z = K (b + (48 + 3 * z)) ∧ V s 4 z = K (b + (49 + 3 * z))
theorem seR_c {s s' : Int} (h : seR s V K b) (h7 : V' s' 7 0 = V s 7 0) (h2 : ∀ z, 0 ≤ z → z < V s 7 0 → V' s' 2 z = V s 2 z ∧ V' s' 3 z = V s 3 z ∧ V' s' 4 z = V s 4 z) (hK : ∀ z, (47 ≤ z ∧ z < 65) ∨ z = 70 → K' (b' + z) = K (b + z)) : seR s' V' K' b' := by
  obtain ⟨k1, k2, k3⟩ := h
  refine ⟨by rw [h7, k1, hK 70 (Or.inr rfl)], by rw [h7]; exact k2, fun z z0 z1 => ?_⟩
  rw [h7] at z1
  obtain ⟨l1, l2, l3⟩ := h2 z z0 z1
  rw [l1, l2, l3, hK _ (by omega), hK _ (by omega), hK _ (by omega)]
  exact k3 z z0 z1
-- laws
def txR (x : Int) (V : dV) (K : Int → Int) (b t : Int) : Prop := 0 ≤ V x 2 0 ∧ (0 ≤ K (b + (73 + t)) ∧ K (b + (73 + t)) ≤ 400) ∧ tx_ok 0 (tcd K b t) (tvl K b t) (V x 0) (V x 1) (V x 2 0) (K (b + (73 + t))) (V x 3 0)
theorem txR_c {x x' t : Int} (t0 : 0 ≤ t) (t5 : t ≤ 5) (h : txR x V K b t) (h0 : ∀ z, z < V x 2 0 → V' x' 0 z = V x 0 z) (h1 : ∀ z, 0 ≤ z → z < V x 3 0 * 8 → V' x' 1 z = V x 1 z) (h2 : V' x' 2 0 = V x 2 0) (h3 : V' x' 3 0 = V x 3 0) (hK : ∀ z, 73 ≤ z ∧ z < 5680 → K' (b' + z) = K (b + z)) : txR x' V' K' b' t := by
  obtain ⟨k1, k2, k3⟩ := h
  have e := hK (73 + t) (by omega)
  refine ⟨by rw [h2]; exact k1, by rw [e]; exact k2, ?_⟩
  rw [h2, h3, e]
  have g : cg (K (b + (73 + t))) (tcd K b t) (tvl K b t) (tcd K' b' t) (tvl K' b' t) := by
    refine ⟨fun z z0 z1 => ?_, fun z z0 z1 => ?_⟩
    · unfold tcd
      rw [e]
      by_cases q : z < K (b + (73 + t))
      · rw [if_pos q, if_pos q]; exact hK _ (by omega)
      · rw [if_neg q, if_neg q]
    · unfold tvl; exact hK _ (by omega)
  exact cg_tx g (tx_ok_c h0 h1 (Int.le_refl _) k3)
def laR (A : Nat → Int) (k : Nat) (V : dV) (K : Int → Int) (b : Int) : Prop := V (A (1 + k)) 5 0 = K (b + 71) ∧ (0 ≤ V (A (1 + k)) 5 0 ∧ V (A (1 + k)) 5 0 ≤ 6) ∧ V (A (1 + k)) 6 0 = K (b + 72) ∧ (-1 ≤ V (A (1 + k)) 6 0 ∧ V (A (1 + k)) 6 0 < V (A (1 + k)) 5 0) ∧ ∀ t : Nat, (t : Int) < V (A (1 + k)) 5 0 → txR (A (20 + 6 * k + t)) V K b (t : Int)
def la_D (k i m : Nat) : Bool := (i == 1 + k && (m == 5 || m == 6)) || (20 + 6 * k ≤ i && i < 26 + 6 * k && m ≤ 3)
theorem laR_c {k : Nat} (hk : k < 3) (h : laR A k V K b) (g : ag A (la_D k) V V') (hK : ∀ z, 71 ≤ z ∧ z < 5680 → K' (b' + z) = K (b + z)) : laR A k V' K' b' := by
  obtain ⟨k1, k2, k3, k4, k5⟩ := h
  have e5 := g (1 + k) 5 0 (by omega) (by decide) (by unfold la_D; simp)
  have e6 := g (1 + k) 6 0 (by omega) (by decide) (by unfold la_D; simp)
  unfold laR
  rw [e5, e6, hK 71 (by omega), hK 72 (by omega)]
  refine ⟨k1, k2, k3, k4, fun t ht => ?_⟩
  have gx : ∀ (m : Nat) (z : Int), m ≤ 3 → V' (A (20 + 6 * k + t)) m z = V (A (20 + 6 * k + t)) m z := fun m z hm => g _ m z (by omega) (by omega) (by unfold la_D; simp; omega)
  exact txR_c (by omega) (by omega) (k5 t ht) (fun z _ => gx 0 z (by decide)) (fun z _ _ => gx 1 z (by decide)) (gx 2 0 (by decide)) (gx 3 0 (by decide)) (fun z hz => hK z (by omega))
-- a stand
def stR (A : Nat → Int) (k : Nat) (V : dV) (K : Int → Int) (b : Int) : Prop := flR (A (4 + k)) V K b ∧ seR (A (1 + k)) V K b ∧ laR A k V K b
def st_D (k i m : Nat) : Bool := la_D k i m || (i == 4 + k && m ≤ 10 && m != 6) || (i == 1 + k && (m == 2 || m == 3 || m == 4 || m == 7))
theorem ag_fl {k : Nat} (hk : k < 3) (g : ag A (st_D k) V V') : fl_eq (V (A (4 + k))) (V' (A (4 + k))) := fun j c hj h6 => (g (4 + k) j c (by omega) (by omega) (by unfold st_D; simp; omega)).symm
theorem stR_c {k : Nat} (hk : k < 3) (h : stR A k V K b) (g : ag A (st_D k) V V') (hK : ∀ z, 0 ≤ z ∧ z < 5680 → K' (b' + z) = K (b + z)) : stR A k V' K' b' := by
  obtain ⟨h1, h2, h3⟩ := h
  refine ⟨flR_c h1 (ag_fl hk g) (fun z hz => hK z (by omega)), seR_c h2 (g (1 + k) 7 0 (by omega) (by decide) (by unfold st_D la_D; simp)) (fun z z0 z1 => ⟨g (1 + k) 2 z (by omega) (by decide) (by unfold st_D la_D; simp), g (1 + k) 3 z (by omega) (by decide) (by unfold st_D la_D; simp), g (1 + k) 4 z (by omega) (by decide) (by unfold st_D la_D; simp)⟩) (fun z hz => hK z (by omega)), laR_c hk h3 (fun i m z hi hm hd => g i m z hi hm (by unfold st_D; rw [hd]; rfl)) (fun z hz => hK z (by omega))⟩
def imR (A : Nat → Int) (a : Int) (V W : dV) : Prop := ∀ k : Nat, k < 2 → V (A 0) 2 (k : Int) = W a 4 (k : Int) ∧ (V (A 0) 2 (k : Int) ≠ 0 → stR A (k + 1) V (W a 3) (5680 * (k : Int)))
def im_D (i m : Nat) : Bool := (i == 0 && m == 2) || st_D 1 i m || st_D 2 i m
theorem imR_c (h : imR A a V W) (g : ag A im_D V V') (h3 : ∀ z, W' a 3 z = W a 3 z) (h4 : ∀ z, W' a 4 z = W a 4 z) : imR A a V' W' := by
  intro k hk
  obtain ⟨k1, k2⟩ := h k hk
  have e := g 0 2 (k : Int) (by decide) (by decide) rfl
  rw [e, h4]
  refine ⟨k1, fun n => stR_c (by omega) (k2 n) (fun i m z hi hm hd => g i m z hi hm ?_) (fun z _ => h3 _)⟩
  have : k = 0 ∨ k = 1 := by omega
  unfold im_D
  rcases this with rfl | rfl
  · rw [hd]; simp
  · rw [hd]; simp
-- the tape
def tpR (A : Nat → Int) (a : Int) (V W : dV) : Prop := V (A 9) 1 0 = W a 13 0 ∧ (0 ≤ W a 13 0 ∧ W a 13 0 ≤ 400) ∧ ∀ z, 0 ≤ z → z < W a 13 0 → byr (V (A 9) 0 z) (W a 11 z)
def tp_D (i m : Nat) : Bool := i == 9 && m ≤ 1
theorem tpR_c (h : tpR A a V W) (g : ag A tp_D V V') (h1 : ∀ z, W' a 11 z = W a 11 z) (h3 : W' a 13 0 = W a 13 0) : tpR A a V' W' := by
  obtain ⟨k1, k2, k3⟩ := h
  unfold tpR
  rw [g 9 1 0 (by decide) (by decide) rfl, h3]
  refine ⟨k1, k2, fun z z0 z1 => ?_⟩
  rw [g 9 0 z (by decide) (by decide) rfl, h1]
  exact k3 z z0 z1
-- what can be undone
/-- the floor φ with what was kept in L from b on put back -/
def mvf (φ : Nat → Int → Int) (L : Int → Int) (b : Int) : Nat → Int → Int := fun j c => match j with
  | 2 => L (b + c)
  | 3 => L (b + (9 + c))
  | 4 => L (b + (18 + c))
  | 5 => if c = 0 then L (b + 28) else φ 5 c
  | 10 => L (b + 27)
  | j => φ j c
def st1 (S L : Int → Int) (u : Int) : Prop := S (30 * u) = L (30 * u + 29) ∧ (0 ≤ S (30 * u) ∧ S (30 * u) ≤ 3) ∧ S (30 * u + 1) = L (30 * u + 27) ∧ S (30 * u + 2) = L (30 * u + 28) ∧ ∀ c, 0 ≤ c → c < 9 → S (30 * u + (3 + c)) = L (30 * u + (9 + c)) ∧ S (30 * u + (12 + c)) = L (30 * u + (18 + c)) ∧ S (30 * u + (21 + c)) = L (30 * u + c)
def psR (A : Nat → Int) (a : Int) (V W : dV) : Prop := V (A 15) 4 0 = W a 33 0 ∧ (0 ≤ W a 33 0 ∧ W a 33 0 ≤ 16) ∧ ∀ u, 0 ≤ u → u < W a 33 0 → st1 (V (A 15) 0) (W a 31) u ∧ kgf (mvf (V (A 4)) (W a 31) (30 * u))
theorem mvf_eq {φ φ' : Nat → Int → Int} {L : Int → Int} (h : ∀ c, φ' 0 c = φ 0 c ∧ φ' 1 c = φ 1 c ∧ (c ≠ 0 → φ' 5 c = φ 5 c)) (h7 : φ' 7 0 = φ 7 0) (h8 : φ' 8 0 = φ 8 0) (h9 : φ' 9 0 = φ 9 0) (g : kgf (mvf φ L b)) : kgf (mvf φ' L b) := by
  have e : ∀ (c : Int), (mvf φ' L b) 0 c = (mvf φ L b) 0 c ∧ (mvf φ' L b) 1 c = (mvf φ L b) 1 c ∧ (mvf φ' L b) 2 c = (mvf φ L b) 2 c ∧ (mvf φ' L b) 3 c = (mvf φ L b) 3 c ∧ (mvf φ' L b) 4 c = (mvf φ L b) 4 c ∧ (mvf φ' L b) 5 c = (mvf φ L b) 5 c ∧ (mvf φ' L b) 10 c = (mvf φ L b) 10 c := fun c => ⟨(h c).1, (h c).2.1, rfl, rfl, rfl, by
    show (if c = 0 then L (b + 28) else φ' 5 c) = (if c = 0 then L (b + 28) else φ 5 c)
    by_cases q : c = 0
    · rw [if_pos q, if_pos q]
    · rw [if_neg q, if_neg q]; exact (h c).2.2 q, rfl⟩
  have e7 : (mvf φ' L b) 7 0 = (mvf φ L b) 7 0 := h7
  have e8 : (mvf φ' L b) 8 0 = (mvf φ L b) 8 0 := h8
  have e9 : (mvf φ' L b) 9 0 = (mvf φ L b) 9 0 := h9
  generalize mvf φ' L b = ψ' at e e7 e8 e9 ⊢
  generalize mvf φ L b = ψ at e e7 e8 e9 g
  have hc : ∀ c px py, cov ψ' c px py ↔ cov ψ c px py := fun c px py => by
    unfold cov
    rw [(e c).1, (e c).2.2.2.1, (e c).2.2.2.2.1]
  obtain ⟨⟨b7, b8, b9, bc⟩, gd, gs, gl, gw, gp, gy, gm, gz⟩ := g
  refine ⟨⟨by rw [e7]; exact b7, by rw [e8]; exact b8, by rw [e9]; exact b9, fun c c0 c1 => ?_⟩, fun c d px py c0 c1 d0 d1 kc kd => gd c d px py c0 (by rw [← e7]; exact c1) d0 (by rw [← e7]; exact d1) ((hc _ _ _).mp kc) ((hc _ _ _).mp kd), fun c c0 c1 => ?_, fun c c0 c1 hx => ?_, by rw [e8, e9]; exact gw, by rw [(e 0).2.2.2.2.2.2]; exact gp, by rw [(e 0).2.2.2.2.2.1]; exact gy, by rw [(e 1).2.2.2.2.2.1]; exact gm, by rw [(e 2).2.2.2.2.2.1]; exact gz⟩
  · rw [(e c).1, (e c).2.2.2.1, (e c).2.2.2.2.1]; exact bc c c0 (by rw [← e7]; exact c1)
  · rw [(e c).1, (e c).2.1, (e c).2.2.1]; exact gs c c0 (by rw [← e7]; exact c1)
  · rw [(e c).2.2.2.1] at hx
    rw [(e c).1, (e c).2.2.2.1, (e c).2.2.2.2.1, e8, e9]; exact gl c c0 (by rw [← e7]; exact c1) hx
def ps_D (i m : Nat) : Bool := (i == 15 && (m == 0 || m == 4)) || (i == 4 && (m ≤ 1 || m == 5 || m == 7 || m == 8 || m == 9))
theorem psR_c (h : psR A a V W) (g : ag A ps_D V V') (h1 : ∀ z, W' a 31 z = W a 31 z) (h3 : W' a 33 0 = W a 33 0) : psR A a V' W' := by
  obtain ⟨k1, k2, k3⟩ := h
  unfold psR
  rw [g 15 4 0 (by decide) (by decide) rfl, h3, show W' a 31 = W a 31 from funext h1, show V' (A 15) 0 = V (A 15) 0 from funext fun z => g 15 0 z (by decide) (by decide) rfl]
  refine ⟨k1, k2, fun u u0 u1 => ⟨(k3 u u0 u1).1, mvf_eq (fun c => ⟨g 4 0 c (by decide) (by decide) rfl, g 4 1 c (by decide) (by decide) rfl, fun _ => g 4 5 c (by decide) (by decide) rfl⟩) (g 4 7 0 (by decide) (by decide) rfl) (g 4 8 0 (by decide) (by decide) rfl) (g 4 9 0 (by decide) (by decide) rfl) (k3 u u0 u1).2⟩⟩
theorem psR_0 (h4 : V (A 15) 4 0 = 0) (h3 : W a 33 0 = 0) : psR A a V W := ⟨by rw [h4, h3], by rw [h3]; decide, fun u u0 u1 => absurd u1 (by rw [h3]; omega)⟩
-- the years on paper
def ppR (A : Nat → Int) (a : Int) (V W : dV) : Prop := (V (A 7) 7 0 = W a 55 0 ∨ (V (A 7) 7 0 = 0 ∧ W a 55 0 = -1)) ∧ (0 ≤ V (A 7) 7 0 ∧ V (A 7) 7 0 ≤ 9) ∧ ∀ c, 0 ≤ c → c < 9 → V (A 7) 2 c = W a 54 c ∧ V (A 7) 3 c = W a 54 (9 + c) ∧ V (A 7) 4 c = W a 54 (18 + c)
def pp_D (i m : Nat) : Bool := i == 7 && (m == 2 || m == 3 || m == 4 || m == 7)
theorem ppR_c (h : ppR A a V W) (g : ag A pp_D V V') (h4 : ∀ z, W' a 54 z = W a 54 z) (h5 : W' a 55 0 = W a 55 0) : ppR A a V' W' := by
  obtain ⟨k1, k2, k3⟩ := h
  unfold ppR
  rw [g 7 7 0 (by decide) (by decide) rfl, h5]
  refine ⟨k1, k2, fun c c0 c9 => ?_⟩
  rw [g 7 2 c (by decide) (by decide) rfl, g 7 3 c (by decide) (by decide) rfl, g 7 4 c (by decide) (by decide) rfl, h4, h4, h4]
  exact k3 c c0 c9
-- numbers that are told
def miR (A : Nat → Int) (a : Int) (V W : dV) : Prop := (V (A 0) 13 0 = W a 1 1 ∧ V (A 0) 13 1 = W a 1 2 ∧ V (A 0) 13 2 = W a 1 3 ∧ V (A 0) 13 3 = W a 1 5 ∧ V (A 0) 13 4 = W a 1 6) ∧ V (A 0) 14 0 = W a 0 0
def mi_D (i m : Nat) : Bool := i == 0 && (m == 13 || m == 14)
theorem miR_c (h : miR A a V W) (g : ag A mi_D V V') (h0 : W' a 0 0 = W a 0 0) (h1 : ∀ z, W' a 1 z = W a 1 z) : miR A a V' W' := by
  unfold miR
  have e := fun z => g 0 13 z (by decide) (by decide) rfl
  rw [e, e, e, e, e, h1, h1, h1, h1, h1, g 0 14 0 (by decide) (by decide) rfl, h0]
  exact h
def taR (A : Nat → Int) (a : Int) (V W : dV) : Prop := V (A 0) 15 0 = W a 14 0 ∧ V (A 0) 16 0 = W a 6 0 ∧ V (A 0) 17 0 = W a 47 0
def ta_D (i m : Nat) : Bool := i == 0 && (m == 15 || m == 16 || m == 17)
theorem taR_c (h : taR A a V W) (g : ag A ta_D V V') (h14 : W' a 14 0 = W a 14 0) (h6 : W' a 6 0 = W a 6 0) (h47 : W' a 47 0 = W a 47 0) : taR A a V' W' := by
  unfold taR
  rw [g 0 15 0 (by decide) (by decide) rfl, g 0 16 0 (by decide) (by decide) rfl, g 0 17 0 (by decide) (by decide) rfl, h14, h6, h47]
  exact h
-- the reader's places, the words of the reference, what the judge's reckoner has beyond a law's words
def rdR (A : Nat → Int) (a : Int) (V W : dV) : Prop := (∀ z, V (A 10) 1 z = W a 17 z) ∧ (∀ z, 0 ≤ z → z < 127 → W a 7 z = WT.getD z.toNat 0) ∧ ∀ k, 8 ≤ k → k < 23 → -2147483648 ≤ V (A 14) 1 k ∧ V (A 14) 1 k ≤ 2147483647
theorem rdR_c (h : rdR A a V W) (h1 : ∀ z, V' (A 10) 1 z = V (A 10) 1 z) (h2 : ∀ z, 8 ≤ z → V' (A 14) 1 z = V (A 14) 1 z) (h7 : ∀ z, W' a 7 z = W a 7 z) (h17 : ∀ z, W' a 17 z = W a 17 z) : rdR A a V' W' := by
  obtain ⟨k1, k2, k3⟩ := h
  exact ⟨fun z => by rw [h1, h17]; exact k1 z, fun z z0 z1 => by rw [h7]; exact k2 z z0 z1, fun k k8 k23 => by rw [h2 k k8]; exact k3 k k8 k23⟩
/-- class and reference tell the same -/
def RR (A : Nat → Int) (a : Int) (V W : dV) : Prop := inj A ∧ G A V ∧ stR A 0 V (W a 2) 0 ∧ imR A a V W ∧ tpR A a V W ∧ psR A a V W ∧ ppR A a V W ∧ miR A a V W ∧ taR A a V W ∧ rdR A a V W
end QSK
section QSL
variable {V V' V1 W W' W1 : dV} {a b c z t k : Int} {A : Nat → Int}
def an_L (i m : Nat) : Bool := i == 0 && (m == 13 || m == 14)
def an_M (m : Nat) : Bool := m ≤ 1
theorem RR_mi (h : RR A a V W) (f : cf A an_L V V') (g : wf a an_M W W') (hm : miR A a V' W') : RR A a V' W' := by
  obtain ⟨h1, h2, h3, h4, h5, h6, h7, -, h9, h10⟩ := h
  exact ⟨h1, G_c h2 (cf_ag f rfl), stR_c (by decide) h3 (cf_ag f rfl) (fun z _ => g 2 _ rfl), imR_c h4 (cf_ag f rfl) (fun z => g 3 z rfl) (fun z => g 4 z rfl), tpR_c h5 (cf_ag f rfl) (fun z => g 11 z rfl) (g 13 0 rfl), psR_c h6 (cf_ag f rfl) (fun z => g 31 z rfl) (g 33 0 rfl), ppR_c h7 (cf_ag f rfl) (fun z => g 54 z rfl) (g 55 0 rfl), hm, taR_c h9 (cf_ag f rfl) (g 14 0 rfl) (g 6 0 rfl) (g 47 0 rfl), rdR_c h10 (fun z => f 10 1 z (by decide) (by decide) rfl) (fun z _ => f 14 1 z (by decide) (by decide) rfl) (fun z => g 7 z rfl) (fun z => g 17 z rfl)⟩
/-- a refusal's place in both -/
def an_k (k i j : Int) : Prop := (k = -1 ∧ i = 0 ∧ j = 1) ∨ (k = -2 ∧ i = 1 ∧ j = 2) ∨ (k = -3 ∧ i = 2 ∧ j = 3) ∨ (k = -5 ∧ i = 3 ∧ j = 5) ∨ (k = -6 ∧ i = 4 ∧ j = 6)
theorem an_c {i j : Int} (hk : an_k k i j) : f_X11_answer V b k = (dv_u (dv_u V b 14 0 k) b 13 i (dv_add (V b 13 i) 1), k) := by
  unfold f_X11_answer f_X11_answer_10
  rcases hk with ⟨rfl, rfl, rfl⟩ | ⟨rfl, rfl, rfl⟩ | ⟨rfl, rfl, rfl⟩ | ⟨rfl, rfl, rfl⟩ | ⟨rfl, rfl, rfl⟩
  · rw [if_neg (by decide), bq, if_neg (by decide), if_neg (by decide), if_neg (by decide), if_neg (by decide), if_neg (by decide), if_pos rfl, bq, bq, bq, u_j (by decide)]
  · rw [if_neg (by decide), bq, if_neg (by decide), if_neg (by decide), if_neg (by decide), if_neg (by decide), if_pos rfl, bq, bq, bq, u_j (by decide)]
  · rw [if_neg (by decide), bq, if_neg (by decide), if_neg (by decide), if_neg (by decide), if_pos rfl, bq, bq, bq, u_j (by decide)]
  · rw [if_neg (by decide), bq, if_neg (by decide), if_pos rfl, bq, bq, bq, u_j (by decide)]
  · rw [if_neg (by decide), bq, if_pos rfl, bq, bq, bq, u_j (by decide)]
theorem an_m {i j : Int} (hk : an_k k i j) : f_X12_refuses W a k = (dv_u (dv_u W a 0 0 k) a 1 j (dv_add (W a 1 j) 1), k) := by
  have hn : dv_neg k = j := by
    rcases hk with ⟨rfl, rfl, rfl⟩ | ⟨rfl, rfl, rfl⟩ | ⟨rfl, rfl, rfl⟩ | ⟨rfl, rfl, rfl⟩ | ⟨rfl, rfl, rfl⟩ <;> rfl
  unfold f_X12_refuses
  rw [bq, bq, hn, bq, bq, bq, u_j (by decide)]
theorem an_g (h : 0 ≤ t) : f_X11_answer V b t = (dv_u V b 14 0 0, t) := by
  unfold f_X11_answer f_X11_answer_10
  rw [if_pos h, bq, if_neg (by omega), if_neg (by omega), if_neg (by omega), if_neg (by omega), if_neg (by omega), if_neg (by omega)]
theorem an_gm : f_X12_good W a t = (dv_u W a 0 0 0, t) := by
  unfold f_X12_good
  rw [bq]
/-- both refuse -/
theorem RR_bad {i j : Int} (h : RR A a V W) (hk : an_k k i j) : ∃ V' W', f_X11_answer V (A 0) k = (V', k) ∧ f_X12_refuses W a k = (W', k) ∧ RR A a V' W' := by
  have hA := h.1
  obtain ⟨-, -, -, -, -, -, -, ⟨⟨m0, m1, m2, m3, m4⟩, ms⟩, -⟩ := id h
  refine ⟨_, _, an_c hk, an_m hk, RR_mi h (cf_t (cf_u hA (by decide) rfl) (cf_u hA (by decide) rfl)) (wf_t (wf_u rfl) (wf_u rfl)) ⟨?_, ?_⟩⟩
  · have e : ∀ x y z : Int, dv_u (dv_u V (A 0) 14 0 k) (A 0) 13 i x (A 0) 13 y = if y = i then x else V (A 0) 13 y := fun x y z => by rw [u_if, u_j (by decide)]
    have e' : ∀ x y z : Int, dv_u (dv_u W a 0 0 k) a 1 j x a 1 y = if y = j then x else W a 1 y := fun x y z => by rw [u_if, u_j (by decide)]
    rw [e _ 0 0, e _ 1 0, e _ 2 0, e _ 3 0, e _ 4 0, e' _ 1 0, e' _ 2 0, e' _ 3 0, e' _ 5 0, e' _ 6 0]
    rcases hk with ⟨-, rfl, rfl⟩ | ⟨-, rfl, rfl⟩ | ⟨-, rfl, rfl⟩ | ⟨-, rfl, rfl⟩ | ⟨-, rfl, rfl⟩
    · rw [m0]; exact ⟨rfl, m1, m2, m3, m4⟩
    · rw [m1]; exact ⟨m0, rfl, m2, m3, m4⟩
    · rw [m2]; exact ⟨m0, m1, rfl, m3, m4⟩
    · rw [m3]; exact ⟨m0, m1, m2, rfl, m4⟩
    · rw [m4]; exact ⟨m0, m1, m2, m3, rfl⟩
  · rw [u_j (by decide), u_e, u_j (by decide), u_e]
/-- both answer -/
theorem RR_good (h : RR A a V W) (ht : 0 ≤ t) : ∃ V' W', f_X11_answer V (A 0) t = (V', t) ∧ f_X12_good W a t = (W', t) ∧ RR A a V' W' := by
  have hA := h.1
  obtain ⟨-, -, -, -, -, -, -, ⟨hm, ms⟩, -⟩ := id h
  refine ⟨_, _, an_g ht, an_gm, RR_mi h (cf_u hA (by decide) rfl) (wf_u rfl) ⟨?_, ?_⟩⟩
  · have e : ∀ z, dv_u V (A 0) 14 0 0 (A 0) 13 z = V (A 0) 13 z := fun z => u_j (by decide)
    have e' : ∀ z, dv_u W a 0 0 0 a 1 z = W a 1 z := fun z => u_j (by decide)
    rw [e, e, e, e, e, e', e', e', e', e']
    exact hm
  · rw [u_e, u_e]
def L_a (i m : Nat) : Bool := i == 4 || i == 8 || i == 11 || i == 12 || i == 14 || (i == 15 && m != 2) || i == 16
def M_a (m : Nat) : Bool := m == 2 || m == 5 || (22 ≤ m && m ≤ 45) || (48 ≤ m && m ≤ 53) || m == 56
/-- the floor and what can be undone have changed -/
theorem RR_act (h : RR A a V W) (f : cf A L_a V V') (g : wf a M_a W W') (f14 : ∀ z, 8 ≤ z → V' (A 14) 1 z = V (A 14) 1 z) (hK : ∀ z, (47 ≤ z ∧ z < 65) ∨ (70 ≤ z ∧ z < 5680) → W' a 2 z = W a 2 z) (hf : flR (A 4) V' (W' a 2) 0) (hp : psR A a V' W') : RR A a V' W' := by
  obtain ⟨h1, h2, ⟨-, k2, k3⟩, h4, h5, -, h7, h8, h9, h10⟩ := h
  have hz : ∀ z : Int, 0 + z = z := Int.zero_add
  refine ⟨h1, G_c h2 (cf_ag f rfl), ⟨hf, seR_c k2 (f 1 7 0 (by decide) (by decide) rfl) (fun z _ _ => ⟨f 1 2 z (by decide) (by decide) rfl, f 1 3 z (by decide) (by decide) rfl, f 1 4 z (by decide) (by decide) rfl⟩) (fun z hz => by rw [Int.zero_add]; exact hK z (by omega)), laR_c (by decide) k3 (cf_ag f rfl) (fun z hz => by rw [Int.zero_add]; exact hK z (by omega))⟩, imR_c h4 (cf_ag f rfl) (fun z => g 3 z rfl) (fun z => g 4 z rfl), tpR_c h5 (cf_ag f rfl) (fun z => g 11 z rfl) (g 13 0 rfl), hp, ppR_c h7 (cf_ag f rfl) (fun z => g 54 z rfl) (g 55 0 rfl), miR_c h8 (cf_ag f rfl) (g 0 0 rfl) (fun z => g 1 z rfl), taR_c h9 (cf_ag f rfl) (g 14 0 rfl) (g 6 0 rfl) (g 47 0 rfl), rdR_c h10 (fun z => f 10 1 z (by decide) (by decide) rfl) f14 (fun z => g 7 z rfl) (fun z => g 17 z rfl)⟩
/-- nothing that counts has changed -/
theorem RR_idle (h : RR A a V W) (f : cf A L_a V V') (g : wf a M_a W W') (f14 : ∀ z, 8 ≤ z → V' (A 14) 1 z = V (A 14) 1 z) (f4 : ∀ (m : Nat) (z : Int), m ≤ 10 → m ≠ 6 → V' (A 4) m z = V (A 4) m z) (f15 : ∀ z, V' (A 15) 0 z = V (A 15) 0 z ∧ V' (A 15) 4 z = V (A 15) 4 z) (g2 : ∀ z, W' a 2 z = W a 2 z) (g31 : ∀ z, W' a 31 z = W a 31 z) (g33 : W' a 33 0 = W a 33 0) : RR A a V' W' := by
  obtain ⟨-, -, ⟨k1, -, -⟩, -, -, h6, -⟩ := id h
  refine RR_act h f g f14 (fun z _ => g2 z) (flR_c k1 (fun j c hj h6 => (f4 j c hj h6).symm) (fun z _ => g2 _)) ?_
  obtain ⟨p1, p2, p3⟩ := h6
  unfold psR
  rw [(f15 0).2, g33, show W' a 31 = W a 31 from funext g31, show V' (A 15) 0 = V (A 15) 0 from funext fun z => (f15 z).1]
  exact ⟨p1, p2, fun u u0 u1 => ⟨(p3 u u0 u1).1, mvf_eq (fun c => ⟨f4 0 c (by decide) (by decide), f4 1 c (by decide) (by decide), fun _ => f4 5 c (by decide) (by decide)⟩) (f4 7 0 (by decide) (by decide)) (f4 8 0 (by decide) (by decide)) (f4 9 0 (by decide) (by decide)) (p3 u u0 u1).2⟩⟩
-- carpets
theorem c_add1 {fl s p : Int} (hs : 1 ≤ s ∧ s ≤ 12) (hk : 0 ≤ k ∧ k ≤ 3) (hp : 0 ≤ p ∧ p ≤ 9) (hn : V fl 7 0 < 9) : ∃ V', f_X1_add V fl s k p = (V', V fl 7 0) ∧ (∀ b m z, b ≠ fl → V' b m z = V b m z) ∧ (∀ m z, m ≠ 0 → m ≠ 1 → m ≠ 2 → m ≠ 3 → m ≠ 4 → m ≠ 7 → V' fl m z = V fl m z) ∧ V' fl 7 0 = V fl 7 0 + 1 ∧ ∀ z, (V' fl 0 z = if z = V fl 7 0 then s else V fl 0 z) ∧ (V' fl 1 z = if z = V fl 7 0 then k else V fl 1 z) ∧ (V' fl 2 z = if z = V fl 7 0 then p else V fl 2 z) ∧ (V' fl 3 z = if z = V fl 7 0 then -1 else V fl 3 z) ∧ (V' fl 4 z = if z = V fl 7 0 then -1 else V fl 4 z) := by
  have e7 : ∀ (U : dV) (j : Nat) (x y : Int), j ≠ 7 → dv_u U fl j x y fl 7 0 = U fl 7 0 := fun U j x y h => u_j (Ne.symm h)
  unfold f_X1_add
  rw [if_neg (by omega), if_neg (by omega), if_neg (by omega), if_neg (by omega), if_neg (by omega), if_pos hp.2, bq, if_pos hn, bq, bq, bq, e7 _ _ _ _ (by decide), bq, bq, e7 _ _ _ _ (by decide), e7 _ _ _ _ (by decide), bq, bq, e7 _ _ _ _ (by decide), e7 _ _ _ _ (by decide), e7 _ _ _ _ (by decide), bq, bq, e7 _ _ _ _ (by decide), e7 _ _ _ _ (by decide), e7 _ _ _ _ (by decide), e7 _ _ _ _ (by decide), bq, bq, e7 _ _ _ _ (by decide), e7 _ _ _ _ (by decide), e7 _ _ _ _ (by decide), e7 _ _ _ _ (by decide), e7 _ _ _ _ (by decide), bq, bq, bq, u_e, bq]
  refine ⟨_, by rw [show V fl 7 0 + 1 - 1 = V fl 7 0 by omega], fun b m z hb => ?_, fun m z h0 h1 h2 h3 h4 h7 => ?_, u_e, fun z => ⟨?_, ?_, ?_, ?_, ?_⟩⟩
  · rw [u_b hb, u_b hb, u_b hb, u_b hb, u_b hb, u_b hb]
  · rw [u_j h7, u_j h4, u_j h3, u_j h2, u_j h1, u_j h0]
  · rw [u_j (by decide), u_j (by decide), u_j (by decide), u_j (by decide), u_j (by decide), u_if]
  · rw [u_j (by decide), u_j (by decide), u_j (by decide), u_j (by decide), u_if, u_j (by decide)]
  · rw [u_j (by decide), u_j (by decide), u_j (by decide), u_if, u_j (by decide), u_j (by decide)]
  · rw [u_j (by decide), u_j (by decide), u_if, u_j (by decide), u_j (by decide), u_j (by decide)]
  · rw [u_j (by decide), u_if, u_j (by decide), u_j (by decide), u_j (by decide), u_j (by decide)]
theorem c_add0 {fl s p : Int} (h : ¬ ((1 ≤ s ∧ s ≤ 12) ∧ (0 ≤ k ∧ k ≤ 3) ∧ 0 ≤ p ∧ p ≤ 9)) : f_X1_add V fl s k p = (V, -1) := by
  unfold f_X1_add
  by_cases h1 : s < 1
  · rw [if_pos h1]
  · rw [if_neg h1]
    by_cases h2 : 12 < s
    · rw [if_pos h2]
    · rw [if_neg h2]
      by_cases h3 : k < 0
      · rw [if_pos h3]
      · rw [if_neg h3]
        by_cases h4 : 3 < k
        · rw [if_pos h4]
        · rw [if_neg h4]
          by_cases h5 : p < 0
          · rw [if_pos h5]
          · rw [if_neg h5, if_neg (by omega)]
theorem c_add5 {fl s p : Int} (hs : 1 ≤ s ∧ s ≤ 12) (hk : 0 ≤ k ∧ k ≤ 3) (hp : 0 ≤ p ∧ p ≤ 9) (hn : ¬ V fl 7 0 < 9) : f_X1_add V fl s k p = (V, -5) := by
  unfold f_X1_add
  rw [if_neg (by omega), if_neg (by omega), if_neg (by omega), if_neg (by omega), if_neg (by omega), if_pos hp.2, bq, if_neg hn]
theorem m_adds {s p : Int} (hn : 0 ≤ W a 2 69 ∧ W a 2 69 < 9) : ∃ W', f_X12_adds W a s k p = (W', 0) ∧ (∀ b m z, ¬ (b = a ∧ m = 2) → W' b m z = W b m z) ∧ ∀ z, W' a 2 z = if z = 69 then W a 2 69 + 1 else if z = 29 + W a 2 69 then s else if z = 38 + W a 2 69 then k else if z = W a 2 69 then p else if z = 9 + W a 2 69 ∨ z = 18 + W a 2 69 then -1 else W a 2 z := by
  unfold f_X12_adds f_X12_rolls
  rw [dv_bn2 q_many, bq, bq, bq, bq, bq, bq, bq, bq, bq, bq, dv_bn2 rfl, bq, bq, bq, Int.zero_add]
  refine ⟨_, rfl, fun b m z h => ?_, fun z => ?_⟩
  · by_cases hb : b = a
    · have hm : m ≠ 2 := fun q => h ⟨hb, q⟩
      rw [u_j hm, u_j hm, u_j hm, u_j hm, u_j hm, u_j hm]
    · rw [u_b hb, u_b hb, u_b hb, u_b hb, u_b hb, u_b hb]
  · rw [u_i (show (69 : Int) ≠ 18 + W a 2 69 by omega), u_i (show (69 : Int) ≠ 9 + W a 2 69 by omega), u_i (show (69 : Int) ≠ W a 2 69 by omega), u_i (show (69 : Int) ≠ 38 + W a 2 69 by omega), u_i (show (69 : Int) ≠ 29 + W a 2 69 by omega), u_if, u_if, u_if, u_if, u_if, u_if]
    by_cases e : z = 69
    · rw [if_pos e, if_pos e]
    · rw [if_neg e, if_neg e]
      by_cases e1 : z = 29 + W a 2 69
      · have n1 : ¬ z = 18 + W a 2 69 := by omega
        have n2 : ¬ z = 9 + W a 2 69 := by omega
        have n3 : ¬ z = W a 2 69 := by omega
        have n4 : ¬ z = 38 + W a 2 69 := by omega
        simp only [if_pos e1, if_neg n1, if_neg n2, if_neg n3, if_neg n4]
      · by_cases e2 : z = 38 + W a 2 69
        · have n1 : ¬ z = 18 + W a 2 69 := by omega
          have n2 : ¬ z = 9 + W a 2 69 := by omega
          have n3 : ¬ z = W a 2 69 := by omega
          simp only [if_neg e1, if_pos e2, if_neg n1, if_neg n2, if_neg n3]
        · by_cases e3 : z = W a 2 69
          · have n1 : ¬ z = 18 + W a 2 69 := by omega
            have n2 : ¬ z = 9 + W a 2 69 := by omega
            simp only [if_neg e1, if_neg e2, if_pos e3, if_neg n1, if_neg n2]
          · by_cases e4 : z = 18 + W a 2 69
            · have n1 : z = 9 + W a 2 69 ∨ z = 18 + W a 2 69 := Or.inr e4
              simp only [if_neg e1, if_neg e2, if_neg e3, if_pos e4, if_pos n1]
            · by_cases e5 : z = 9 + W a 2 69
              · have n1 : z = 9 + W a 2 69 ∨ z = 18 + W a 2 69 := Or.inl e5
                simp only [if_neg e1, if_neg e2, if_neg e3, if_neg e4, if_pos e5, if_pos n1]
              · have n1 : ¬ (z = 9 + W a 2 69 ∨ z = 18 + W a 2 69) := by omega
                simp only [if_neg e1, if_neg e2, if_neg e3, if_neg e4, if_neg e5, if_neg n1]
end QSL
section QSM
variable {V V' V1 W W' W1 : dV} {a b c z t k s p x y : Int} {A : Nat → Int} {K K' : Int → Int} {φ φ' : Nat → Int → Int} {L : Nat → Nat → Bool} {M : Nat → Bool}
theorem cf_b {j : Nat} (hA : inj A) (hj : j < 38) (h : ∀ b m z, b ≠ A j → V' b m z = V b m z) (hL : ∀ m, L j m = true) : cf A L V V' := fun i m z hi hm hLi => by
  by_cases e : i = j
  · subst e; rw [hL m] at hLi; cases hLi
  · exact h _ m z (inj_n hA hi hj e)
theorem wf_b {n : Nat} (h : ∀ b m z, ¬ (b = a ∧ m = n) → W' b m z = W b m z) (hM : M n = true) : wf a M W W' := fun m z hm => h a m z (fun q => by rw [q.2, hM] at hm; cases hm)
theorem kg_add (g : kgf φ) (hn : φ 7 0 < 9) (hs : 1 ≤ s ∧ s ≤ 12) (hk : 0 ≤ k ∧ k ≤ 3) (hp : 0 ≤ p ∧ p ≤ 9) (h7 : φ' 7 0 = φ 7 0 + 1) (hc : ∀ z, (φ' 0 z = if z = φ 7 0 then s else φ 0 z) ∧ (φ' 1 z = if z = φ 7 0 then k else φ 1 z) ∧ (φ' 2 z = if z = φ 7 0 then p else φ 2 z) ∧ (φ' 3 z = if z = φ 7 0 then -1 else φ 3 z) ∧ (φ' 4 z = if z = φ 7 0 then -1 else φ 4 z)) (h5 : ∀ z, φ' 5 z = φ 5 z) (h8 : φ' 8 0 = φ 8 0) (h9 : φ' 9 0 = φ 9 0) (h10 : φ' 10 0 = φ 10 0) : kgf φ' := by
  obtain ⟨⟨b7, b8, b9, bc⟩, gd, gs, gl, gw, gp, gy, gm, gz⟩ := g
  have hcov : ∀ c px py, cov φ' c px py → c ≠ φ 7 0 ∧ cov φ c px py := by
    intro c px py hv
    unfold cov at hv
    obtain ⟨e0, -, -, e3, e4⟩ := hc c
    by_cases e : c = φ 7 0
    · rw [if_pos e] at e3; exact absurd e3 hv.1
    · rw [if_neg e] at e0 e3 e4
      rw [e0, e3, e4] at hv
      exact ⟨e, hv⟩
  refine ⟨⟨by omega, by rw [h8]; exact b8, by rw [h9]; exact b9, fun c c0 c1 => ?_⟩, fun c d px py c0 c1 d0 d1 kc kd => ?_, fun c c0 c1 => ?_, fun c c0 c1 hx => ?_, by rw [h8, h9]; exact gw, by rw [h10]; exact gp, by rw [h5]; exact gy, by rw [h5]; exact gm, by rw [h5]; exact gz⟩
  · obtain ⟨e0, -, -, e3, e4⟩ := hc c
    rw [e0, e3, e4]
    by_cases e : c = φ 7 0
    · rw [if_pos e, if_pos e, if_pos e]; omega
    · rw [if_neg e, if_neg e, if_neg e]; exact bc c c0 (by omega)
  · obtain ⟨n1, v1⟩ := hcov c px py kc
    obtain ⟨n2, v2⟩ := hcov d px py kd
    exact gd c d px py c0 (by omega) d0 (by omega) v1 v2
  · obtain ⟨e0, e1, e2, -, -⟩ := hc c
    rw [e0, e1, e2]
    by_cases e : c = φ 7 0
    · rw [if_pos e, if_pos e, if_pos e]; omega
    · rw [if_neg e, if_neg e, if_neg e]; exact gs c c0 (by omega)
  · obtain ⟨e0, -, -, e3, e4⟩ := hc c
    rw [e3] at hx
    rw [e0, e3, e4, h8, h9]
    by_cases e : c = φ 7 0
    · rw [if_pos e] at hx; exact absurd rfl hx
    · rw [if_neg e] at hx
      rw [if_neg e, if_neg e, if_neg e]; exact gl c c0 (by omega) hx
theorem ef_add (e : ef φ (kf K 0)) (hn : 0 ≤ φ 7 0 ∧ φ 7 0 < 9) (h7 : φ' 7 0 = φ 7 0 + 1) (hc : ∀ z, (φ' 0 z = if z = φ 7 0 then s else φ 0 z) ∧ (φ' 1 z = if z = φ 7 0 then k else φ 1 z) ∧ (φ' 2 z = if z = φ 7 0 then p else φ 2 z) ∧ (φ' 3 z = if z = φ 7 0 then -1 else φ 3 z) ∧ (φ' 4 z = if z = φ 7 0 then -1 else φ 4 z)) (h5 : ∀ z, φ' 5 z = φ 5 z) (h8 : φ' 8 0 = φ 8 0) (h9 : φ' 9 0 = φ 9 0) (h10 : φ' 10 0 = φ 10 0) (hK : ∀ z, K' z = if z = 69 then K 69 + 1 else if z = 29 + K 69 then s else if z = 38 + K 69 then k else if z = K 69 then p else if z = 9 + K 69 ∨ z = 18 + K 69 then -1 else K z) : ef φ' (kf K' 0) := by
  obtain ⟨e1, ⟨e2, e3, e4⟩, e5, e6, e7, e8⟩ := e
  simp only [kf, Int.zero_add] at e1 e2 e3 e4 e5 e6 e7 e8
  rw [if_pos trivial] at e2
  rw [if_neg (by decide)] at e3 e4
  rw [← e5] at hK
  have hz : ∀ z, z ≠ 69 → z ≠ 29 + φ 7 0 → z ≠ 38 + φ 7 0 → z ≠ φ 7 0 → z ≠ 9 + φ 7 0 → z ≠ 18 + φ 7 0 → K' z = K z := fun z n1 n2 n3 n4 n5 n6 => by rw [hK, if_neg n1, if_neg n2, if_neg n3, if_neg n4, if_neg (by omega)]
  refine ⟨fun c c0 c9 => ?_, ⟨?_, ?_, ?_⟩, ?_, ?_, ?_, ?_⟩
  · obtain ⟨a0, a1, a2, a3, a4⟩ := hc c
    obtain ⟨d0, d1, d2, d3, d4⟩ := e1 c c0 c9
    simp only [kf, Int.zero_add]
    rw [a0, a1, a2, a3, a4]
    by_cases e : c = φ 7 0
    · rw [hK (29 + c), hK (38 + c), hK c, hK (9 + c), hK (18 + c), if_pos e, if_pos e, if_pos e, if_pos e, if_pos e, if_neg (by omega), if_pos (by omega), if_neg (by omega), if_neg (by omega), if_pos (by omega), if_neg (by omega), if_neg (by omega), if_neg (by omega), if_pos e, if_neg (by omega), if_neg (by omega), if_neg (by omega), if_neg (by omega), if_pos (by omega), if_neg (by omega), if_neg (by omega), if_neg (by omega), if_neg (by omega), if_pos (by omega)]
      exact ⟨rfl, rfl, rfl, rfl, rfl⟩
    · rw [if_neg e, if_neg e, if_neg e, if_neg e, if_neg e, hz (29 + c) (by omega) (by omega) (by omega) (by omega) (by omega) (by omega), hz (38 + c) (by omega) (by omega) (by omega) (by omega) (by omega) (by omega), hz c (by omega) (by omega) (by omega) (by omega) (by omega) (by omega), hz (9 + c) (by omega) (by omega) (by omega) (by omega) (by omega) (by omega), hz (18 + c) (by omega) (by omega) (by omega) (by omega) (by omega) (by omega)]
      exact ⟨d0, d1, d2, d3, d4⟩
  · simp only [kf, Int.zero_add]
    rw [if_pos trivial, h5, hz 28 (by omega) (by omega) (by omega) (by omega) (by omega) (by omega)]; exact e2
  · simp only [kf, Int.zero_add]
    rw [if_neg (by decide), h5, hz (64 + 1) (by omega) (by omega) (by omega) (by omega) (by omega) (by omega)]; exact e3
  · simp only [kf, Int.zero_add]
    rw [if_neg (by decide), h5, hz (64 + 2) (by omega) (by omega) (by omega) (by omega) (by omega) (by omega)]; exact e4
  · simp only [kf, Int.zero_add]
    rw [h7, hK 69, if_pos rfl, e5]
  · simp only [kf, Int.zero_add]
    rw [h8, hz 67 (by omega) (by omega) (by omega) (by omega) (by omega) (by omega)]; exact e6
  · simp only [kf, Int.zero_add]
    rw [h9, hz 68 (by omega) (by omega) (by omega) (by omega) (by omega) (by omega)]; exact e7
  · simp only [kf, Int.zero_add]
    rw [h10, hz 27 (by omega) (by omega) (by omega) (by omega) (by omega) (by omega)]; exact e8
/-- a carpet came: the same in both, and nothing can be undone -/
theorem RR_add (h : RR A a V W) (hs : 1 ≤ s ∧ s ≤ 12) (hk : 0 ≤ k ∧ k ≤ 3) (hp : 0 ≤ p ∧ p ≤ 9) (hn : V (A 4) 7 0 < 9) : ∃ V' W', f_X1_add V (A 4) s k p = (V', V (A 4) 7 0) ∧ f_X12_adds W a s k p = (W', 0) ∧ (∀ b m z, b ≠ A 4 → V' b m z = V b m z) ∧ (∀ b m z, ¬ (b = a ∧ m = 2) → W' b m z = W b m z) ∧ (∀ z, 47 ≤ z → z ≠ 69 → W' a 2 z = W a 2 z) ∧ flR (A 4) V' (W' a 2) 0 ∧ V' (A 4) 7 0 = V (A 4) 7 0 + 1 := by
  obtain ⟨hA, -, ⟨⟨k1, k1'⟩, -, -⟩, -⟩ := id h
  have e7 : V (A 4) 7 0 = W a 2 69 := by have := k1.2.2.1; simp only [kf, Int.zero_add] at this; exact this
  have n0 : 0 ≤ V (A 4) 7 0 ∧ V (A 4) 7 0 ≤ 9 := k1'.1.1
  obtain ⟨V', eV, f1, f2, f3, f4⟩ := c_add1 (V := V) (fl := A 4) hs hk hp hn
  obtain ⟨W', eW, g1, g2⟩ := m_adds (W := W) (a := a) (s := s) (k := k) (p := p) (by omega)
  refine ⟨V', W', eV, eW, f1, g1, fun z z0 z1 => ?_, ⟨?_, ?_⟩, f3⟩
  · rw [g2, if_neg z1, if_neg (by omega), if_neg (by omega), if_neg (by omega), if_neg (by omega)]
  · exact ef_add (φ := V (A 4)) k1 (by omega) f3 f4 (fun z => f2 5 z (by decide) (by decide) (by decide) (by decide) (by decide) (by decide)) (f2 8 0 (by decide) (by decide) (by decide) (by decide) (by decide) (by decide)) (f2 9 0 (by decide) (by decide) (by decide) (by decide) (by decide) (by decide)) (f2 10 0 (by decide) (by decide) (by decide) (by decide) (by decide) (by decide)) g2
  · exact kg_add k1' hn hs hk hp f3 f4 (fun z => f2 5 z (by decide) (by decide) (by decide) (by decide) (by decide) (by decide)) (f2 8 0 (by decide) (by decide) (by decide) (by decide) (by decide) (by decide)) (f2 9 0 (by decide) (by decide) (by decide) (by decide) (by decide) (by decide)) (f2 10 0 (by decide) (by decide) (by decide) (by decide) (by decide) (by decide))
theorem c_clear : f_X4_clear V b = (dv_u V b 4 0 0, 0) := by
  unfold f_X4_clear
  rw [bq]
theorem m_settled : f_X12_settled W a t = (f_X12_good (dv_u W a 33 0 0) a t) := by
  unfold f_X12_settled
  rw [bq, bq2]
/-- the floor has changed, nothing can be undone, and both answer -/
theorem RR_clear (h : RR A a V W) (f : cf A (fun i _ => i == 4) V V') (g : wf a (fun m => m == 2) W W') (hK : ∀ z, (47 ≤ z ∧ z < 65) ∨ (70 ≤ z ∧ z < 5680) → W' a 2 z = W a 2 z) (hf : flR (A 4) V' (W' a 2) 0) (ht : 0 ≤ t) : ∃ V2 W2, f_X11_answer (dv_u V' (A 15) 4 0 0) (A 0) t = (V2, t) ∧ f_X12_settled W' a t = (W2, t) ∧ RR A a V2 W2 := by
  have hA := h.1
  have F : cf A L_a V (dv_u V' (A 15) 4 0 0) := cf_t (cf_m f (fun i m hL => by
    by_cases e : i = 4
    · subst e; cases hL
    · simp [e])) (cf_u hA (by decide) rfl)
  have GW : wf a M_a W (dv_u W' a 33 0 0) := wf_t (wf_m g (fun m hM => by
    by_cases e : m = 2
    · subst e; cases hM
    · simp [e])) (wf_u rfl)
  have n4 : A 4 ≠ A 15 := inj_n hA (by decide) (by decide) (by decide)
  have R1 : RR A a (dv_u V' (A 15) 4 0 0) (dv_u W' a 33 0 0) := RR_act h F GW (fun z _ => by rw [u_b (inj_n hA (by decide) (by decide) (by decide))]; exact f 14 1 z (by decide) (by decide) rfl) (fun z hz => by rw [u_j (by decide)]; exact hK z hz) (flR_c hf (fun j c _ _ => (u_b n4).symm) (fun z _ => u_j (by decide))) (psR_0 u_e u_e)
  obtain ⟨V2, W2, e1, e2, r⟩ := RR_good (t := t) R1 ht
  exact ⟨V2, W2, e1, by rw [m_settled]; exact e2, r⟩
theorem L_carpet (h : RR A a V W) : ∃ V' W' y, f_X11_carpet V (A 0) s k p = (V', y) ∧ f_X12_carpet W a s k p = (W', y) ∧ RR A a V' W' := by
  obtain ⟨hA, ⟨⟨g0, -, -, -, -, -, -, -, -, -, g10⟩, -, -, gk⟩, ⟨⟨k1, k1'⟩, -, -⟩, -⟩ := id h
  have g1 := (gk 0 (by decide)).1
  have e7 : V (A 4) 7 0 = W a 2 69 := by have := k1.2.2.1; simp only [kf, Int.zero_add] at this; exact this
  have n0 : 0 ≤ V (A 4) 7 0 ∧ V (A 4) 7 0 ≤ 9 := k1'.1.1
  unfold f_X11_carpet f_X12_carpet f_X11_carpet_27
  rw [bq, g0, bq, g1, dv_bn2 q_canBe]
  by_cases e : (1 ≤ s ∧ s ≤ 12) ∧ (0 ≤ k ∧ k ≤ 3) ∧ 0 ≤ p ∧ p ≤ 9
  · rw [if_pos e, if_pos (by decide), dv_bn2 q_many]
    by_cases e9 : V (A 4) 7 0 < 9
    · obtain ⟨V1, W1, eV, eW, f1, f2, f3, f4, f5⟩ := RR_add h e.1 e.2.1 e.2.2 e9
      rw [dv_bn2 eV, if_neg (by omega), bq, f1 (A 0) 10 0 (inj_n hA (by decide) (by decide) (by decide)), g10, dv_bn2 c_clear, if_pos (by omega), dv_bn2 eW, dv_bn2 q_many, bq]
      have e69 : W1 a 2 69 = V (A 4) 7 0 + 1 := by have := f4.1.2.2.1; simp only [kf, Int.zero_add] at this; rw [← this, f5]
      obtain ⟨V2, W2, r1, r2, r3⟩ := RR_clear (t := V (A 4) 7 0) h (cf_b hA (by decide) f1 (fun _ => rfl)) (wf_b f2 rfl) (fun z hz => f3 z (by omega) (by omega)) f4 n0.1
      rw [e69, show V (A 4) 7 0 + 1 - 1 = V (A 4) 7 0 by omega, dv_bn2 r1, dv_bn2 r2]
      exact ⟨V2, W2, _, rfl, rfl, r3⟩
    · rw [dv_bn2 (c_add5 e.1 e.2.1 e.2.2 e9), if_pos (by decide), if_neg (by omega)]
      obtain ⟨V2, W2, r1, r2, r3⟩ := RR_bad (k := -5) h (Or.inr (Or.inr (Or.inr (Or.inl ⟨rfl, rfl, rfl⟩))))
      rw [dv_bn2 r1, dv_bn2 r2]
      exact ⟨V2, W2, _, rfl, rfl, r3⟩
  · rw [if_neg e, if_neg (fun q => q rfl), dv_bn2 (c_add0 e), if_pos (by decide)]
    obtain ⟨V2, W2, r1, r2, r3⟩ := RR_bad (k := -1) h (Or.inl ⟨rfl, rfl, rfl⟩)
    rw [dv_bn2 r1, dv_bn2 r2]
    exact ⟨V2, W2, _, rfl, rfl, r3⟩
end QSM
section QSN
variable {V V' V1 W W' W1 : dV} {a b c z t k s p x y : Int} {A : Nat → Int} {K K' : Int → Int} {φ φ' : Nat → Int → Int} {L : Nat → Nat → Bool} {M : Nat → Bool}
theorem ef_n (e : ef φ (kf K 0)) : φ 7 0 = K 69 ∧ φ 8 0 = K 67 ∧ φ 9 0 = K 68 ∧ φ 10 0 = K 27 ∧ φ 5 0 = K 28 ∧ φ 5 1 = K 65 ∧ φ 5 2 = K 66 ∧ ∀ c, 0 ≤ c → c < 9 → φ 0 c = K (29 + c) ∧ φ 1 c = K (38 + c) ∧ φ 2 c = K c ∧ φ 3 c = K (9 + c) ∧ φ 4 c = K (18 + c) := by
  obtain ⟨e1, ⟨e2, e3, e4⟩, e5, e6, e7, e8⟩ := e
  simp only [kf, Int.zero_add] at e1 e2 e3 e4 e5 e6 e7 e8
  rw [if_pos trivial] at e2
  rw [if_neg (by decide)] at e3 e4
  exact ⟨e5, e6, e7, e8, e2, e3, e4, e1⟩
theorem ef_of (h : φ 7 0 = K 69 ∧ φ 8 0 = K 67 ∧ φ 9 0 = K 68 ∧ φ 10 0 = K 27 ∧ φ 5 0 = K 28 ∧ φ 5 1 = K 65 ∧ φ 5 2 = K 66 ∧ ∀ c, 0 ≤ c → c < 9 → φ 0 c = K (29 + c) ∧ φ 1 c = K (38 + c) ∧ φ 2 c = K c ∧ φ 3 c = K (9 + c) ∧ φ 4 c = K (18 + c)) : ef φ (kf K 0) := by
  obtain ⟨e5, e6, e7, e8, e2, e3, e4, e1⟩ := h
  unfold ef
  simp only [kf, Int.zero_add]
  rw [if_pos trivial, if_neg (by decide), if_neg (by decide)]
  exact ⟨e1, ⟨e2, e3, e4⟩, e5, e6, e7, e8⟩
/-- the floor, number by number -/
theorem RR_n (h : RR A a V W) : kgf (V (A 4)) ∧ V (A 4) 7 0 = W a 2 69 ∧ V (A 4) 8 0 = W a 2 67 ∧ V (A 4) 9 0 = W a 2 68 ∧ V (A 4) 10 0 = W a 2 27 ∧ V (A 4) 5 0 = W a 2 28 ∧ V (A 4) 5 1 = W a 2 65 ∧ V (A 4) 5 2 = W a 2 66 ∧ ∀ c, 0 ≤ c → c < 9 → V (A 4) 0 c = W a 2 (29 + c) ∧ V (A 4) 1 c = W a 2 (38 + c) ∧ V (A 4) 2 c = W a 2 c ∧ V (A 4) 3 c = W a 2 (9 + c) ∧ V (A 4) 4 c = W a 2 (18 + c) := by
  obtain ⟨-, -, ⟨⟨k1, k2⟩, -, -⟩, -⟩ := h
  exact ⟨k2, ef_n k1⟩
/-- the class's objects, by name -/
theorem RR_G (h : RR A a V W) : V (A 0) 0 0 = A 1 ∧ V (A 1) 0 0 = A 4 ∧ V (A 0) 10 0 = A 15 ∧ V (A 0) 5 0 = A 9 ∧ V (A 0) 9 0 = A 13 ∧ V (A 13) 0 0 = A 14 := by
  obtain ⟨-, ⟨⟨g0, -, -, -, -, g5, -, -, -, g9, g10⟩, g13, -, gk⟩, -⟩ := h
  exact ⟨g0, (gk 0 (by decide)).1, g10, g5, g9, g13⟩
theorem qs_0 {f : Nat → Int} {n : Nat} (h : ∀ i, i < n → 0 ≤ f i) (h0 : qs f n ≤ 0) : (∀ i, i < n → f i = 0) := by
  have hp : ∀ m, m ≤ n → 0 ≤ qs f m := by
    intro m
    induction m with
    | zero => intro _; exact Int.le_refl 0
    | succ m ih => intro hm; unfold qs; have := ih (by omega); have := h m (by omega); omega
  have hq : ∀ m, m ≤ n → qs f m ≤ 0 → ∀ i, i < m → f i = 0 := by
    intro m
    induction m with
    | zero => intro _ _ i hi; omega
    | succ m ih =>
      intro hm h1 i hi
      unfold qs at h1
      have h2 := hp m (by omega)
      have h3 := h m (by omega)
      by_cases e : i = m
      · subst e; omega
      · exact ih (by omega) (by omega) i (by omega)
  exact hq n (Nat.le_refl n) h0
theorem kg_hall (g : kgf φ) (hn : ∀ c, 0 ≤ c → c < φ 7 0 → φ 3 c = -1) (hx : 1 ≤ x ∧ x ≤ 12) (hy : 1 ≤ y ∧ y ≤ 12) (h : ∀ j c, j ≠ 8 → j ≠ 9 → φ' j c = φ j c) (h8 : φ' 8 0 = x) (h9 : φ' 9 0 = y) : kgf φ' := by
  obtain ⟨⟨b7, b8, b9, bc⟩, gd, gs, gl, gw, gp, gy, gm, gz⟩ := g
  have e := fun j c (n8 : j ≠ 8) (n9 : j ≠ 9) => h j c n8 n9
  have e7 := e 7 0 (by decide) (by decide)
  refine ⟨⟨by rw [e7]; exact b7, by omega, by omega, fun c c0 c1 => ?_⟩, fun c d px py c0 c1 d0 d1 kc kd => ?_, fun c c0 c1 => ?_, fun c c0 c1 hx => ?_, by omega, by rw [e 10 0 (by decide) (by decide)]; exact gp, by rw [e 5 0 (by decide) (by decide)]; exact gy, by rw [e 5 1 (by decide) (by decide)]; exact gm, by rw [e 5 2 (by decide) (by decide)]; exact gz⟩
  · rw [e 0 c (by decide) (by decide), e 3 c (by decide) (by decide), e 4 c (by decide) (by decide)]; exact bc c c0 (by omega)
  · have q := kc.1
    rw [e 3 c (by decide) (by decide)] at q
    exact absurd (hn c c0 (by omega)) q
  · rw [e 0 c (by decide) (by decide), e 1 c (by decide) (by decide), e 2 c (by decide) (by decide)]; exact gs c c0 (by omega)
  · rw [e 3 c (by decide) (by decide)] at hx
    exact absurd (hn c c0 (by omega)) hx
theorem L_hall (h : RR A a V W) : ∃ V' W' u, f_X11_hall V (A 0) x y = (V', u) ∧ f_X12_hall W a x y = (W', u) ∧ RR A a V' W' := by
  have hA := h.1
  obtain ⟨g0, g1, g10, -⟩ := RR_G h
  obtain ⟨kk, e7, e8, e9, e10, e50, e51, e52, ec⟩ := RR_n h
  have n7 := kk.1.1
  have bad : ¬ ((1 ≤ x ∧ x ≤ 12) ∧ 1 ≤ y ∧ y ≤ 12) → ∃ V' W' u, f_X11_hall V (A 0) x y = (V', u) ∧ f_X12_hall W a x y = (W', u) ∧ RR A a V' W' := by
    intro hn
    obtain ⟨V2, W2, r1, r2, r3⟩ := RR_bad (k := -1) h (Or.inl ⟨rfl, rfl, rfl⟩)
    refine ⟨V2, W2, -1, ?_, ?_, r3⟩
    · have e : f_X11_hall_22 V (A 0) = (V2, -1) := by unfold f_X11_hall_22; rw [dv_bn2 r1]
      unfold f_X11_hall
      by_cases x1 : x < 1
      · rw [if_pos x1, e]
      · rw [if_neg x1]
        by_cases x2 : 12 < x
        · rw [if_pos x2, e]
        · rw [if_neg x2]
          by_cases y1 : y < 1
          · rw [if_pos y1, e]
          · rw [if_neg y1, if_neg (by omega), e]
    · have e : f_X12_hall_14 W a = (W2, -1) := by unfold f_X12_hall_14; rw [dv_bn2 r2]
      unfold f_X12_hall
      rw [dv_bn2 q_isSide]
      by_cases hx : 1 ≤ x ∧ x ≤ 12
      · rw [if_pos hx, if_neg (by decide), dv_bn2 q_isSide, if_neg (fun q => hn ⟨hx, q⟩), if_neg (fun q => q rfl), e]
      · rw [if_neg hx, if_pos rfl, e]
  by_cases hxy : (1 ≤ x ∧ x ≤ 12) ∧ 1 ≤ y ∧ y ≤ 12
  case neg => exact bad hxy
  obtain ⟨hx, hy⟩ := hxy
  have hq := ef_laid (ψ := kf (W a 2) 0) (h.2.2.1.1.1) kk.1
  have hlV : f_X1_laidCarpets V (A 4) = (qs (fun i => if V (A 4) 3 (i : Int) ≠ -1 then 1 else 0) (V (A 4) 7 0).toNat, ()) := q_laidCarpets n7.1 n7.2
  by_cases hl : qs (fun i => if V (A 4) 3 (i : Int) ≠ -1 then 1 else 0) (V (A 4) 7 0).toNat ≤ 0
  case neg =>
    obtain ⟨V2, W2, r1, r2, r3⟩ := RR_bad (k := -3) h (Or.inr (Or.inr (Or.inl ⟨rfl, rfl, rfl⟩)))
    refine ⟨V2, W2, -3, ?_, ?_, r3⟩
    · unfold f_X11_hall
      rw [if_neg (by omega), if_neg (by omega), if_neg (by omega), if_pos (by omega), bq, g0, bq, g1, dv_bn2 hlV, if_neg hl, dv_bn2 r1]
    · unfold f_X12_hall
      rw [dv_bn2 q_isSide, if_pos hx, if_neg (by decide), dv_bn2 q_isSide, if_pos hy, if_pos (by decide), dv_bn2 q_laidMany2, if_neg (by rw [← hq]; exact hl), dv_bn2 r2]
  have hu : ∀ (U : dV) (j : Nat) (i v : Int), dv_u U (A 4) j i v (A 0) 0 0 = U (A 0) 0 0 := fun U j i v => u_b (inj_n hA (by decide) (by decide) (by decide))
  have hu1 : ∀ (U : dV) (j : Nat) (i v : Int), dv_u U (A 4) j i v (A 1) 0 0 = U (A 1) 0 0 := fun U j i v => u_b (inj_n hA (by decide) (by decide) (by decide))
  have hu10 : ∀ (U : dV) (j : Nat) (i v : Int), dv_u U (A 4) j i v (A 0) 10 0 = U (A 0) 10 0 := fun U j i v => u_b (inj_n hA (by decide) (by decide) (by decide))
  have eV : ∀ Z, f_X11_answer (dv_u (dv_u (dv_u V (A 4) 8 0 x) (A 4) 9 0 y) (A 15) 4 0 0) (A 0) (x * y) = Z → f_X11_hall V (A 0) x y = Z := by
    intro Z hZ
    unfold f_X11_hall
    rw [if_neg (by omega), if_neg (by omega), if_neg (by omega), if_pos (by omega), bq, g0, bq, g1, dv_bn2 hlV, if_pos hl]
    simp only [bq, g0, g1, hu, hu1, hu10, g10]
    rw [dv_bn2 c_clear, bq2, hZ]
  have eW : ∀ Z, f_X12_settled (dv_u (dv_u W a 2 67 x) a 2 68 y) a (x * y) = Z → f_X12_hall W a x y = Z := by
    intro Z hZ
    unfold f_X12_hall
    rw [dv_bn2 q_isSide, if_pos hx, if_neg (by decide), dv_bn2 q_isSide, if_pos hy, if_pos (by decide), dv_bn2 q_laidMany2, if_pos (by rw [← hq]; exact hl), bq, bq, bq, bq2, hZ]
  have hz : ∀ c, 0 ≤ c → c < V (A 4) 7 0 → V (A 4) 3 c = -1 := by
    intro c c0 c1
    have := qs_0 (fun i _ => by split <;> omega) hl c.toNat (by omega)
    have hcc : ((c.toNat : Nat) : Int) = c := by omega
    rw [hcc] at this
    by_cases q : V (A 4) 3 c = -1
    · exact q
    · rw [if_pos q] at this; omega
  have f8 : dv_u (dv_u V (A 4) 8 0 x) (A 4) 9 0 y (A 4) 8 0 = x := by rw [u_j (by decide), u_e]
  have f9 : dv_u (dv_u V (A 4) 8 0 x) (A 4) 9 0 y (A 4) 9 0 = y := u_e
  have fj : ∀ (j : Nat) (c : Int), j ≠ 8 → j ≠ 9 → dv_u (dv_u V (A 4) 8 0 x) (A 4) 9 0 y (A 4) j c = V (A 4) j c := fun j c n8 n9 => by rw [u_j n9, u_j n8]
  have fb : ∀ b m z, b ≠ A 4 → dv_u (dv_u V (A 4) 8 0 x) (A 4) 9 0 y b m z = V b m z := fun b m z hb => by rw [u_b hb, u_b hb]
  have w2 : ∀ z, dv_u (dv_u W a 2 67 x) a 2 68 y a 2 z = if z = 68 then y else if z = 67 then x else W a 2 z := fun z => by rw [u_if, u_if]
  have wb : ∀ b m z, ¬ (b = a ∧ m = 2) → dv_u (dv_u W a 2 67 x) a 2 68 y b m z = W b m z := fun b m z hb => by
    by_cases q : b = a
    · have q2 : m ≠ 2 := fun e => hb ⟨q, e⟩
      rw [u_j q2, u_j q2]
    · rw [u_b q, u_b q]
  generalize dv_u (dv_u V (A 4) 8 0 x) (A 4) 9 0 y = V1 at f8 f9 fj fb eV
  generalize dv_u (dv_u W a 2 67 x) a 2 68 y = W1 at w2 wb eW
  have wn : ∀ z, z ≠ 67 → z ≠ 68 → W1 a 2 z = W a 2 z := fun z n1 n2 => by rw [w2, if_neg n2, if_neg n1]
  have R : flR (A 4) V1 (W1 a 2) 0 := by
    refine ⟨ef_of ⟨?_, ?_, ?_, ?_, ?_, ?_, ?_, fun c c0 c9 => ?_⟩, kg_hall kk hz hx hy fj f8 f9⟩
    · rw [fj 7 0 (by decide) (by decide), wn 69 (by decide) (by decide), e7]
    · rw [f8, w2, if_neg (by decide), if_pos rfl]
    · rw [f9, w2, if_pos rfl]
    · rw [fj 10 0 (by decide) (by decide), wn 27 (by decide) (by decide), e10]
    · rw [fj 5 0 (by decide) (by decide), wn 28 (by decide) (by decide), e50]
    · rw [fj 5 1 (by decide) (by decide), wn 65 (by decide) (by decide), e51]
    · rw [fj 5 2 (by decide) (by decide), wn 66 (by decide) (by decide), e52]
    · rw [fj 0 c (by decide) (by decide), fj 1 c (by decide) (by decide), fj 2 c (by decide) (by decide), fj 3 c (by decide) (by decide), fj 4 c (by decide) (by decide), wn _ (by omega) (by omega), wn _ (by omega) (by omega), wn _ (by omega) (by omega), wn _ (by omega) (by omega), wn _ (by omega) (by omega)]
      exact ec c c0 c9
  have ht : 0 ≤ x * y := Int.mul_nonneg (by omega) (by omega)
  obtain ⟨V2, W2, r1, r2, r3⟩ := RR_clear (t := x * y) h (cf_b hA (by decide) fb (fun _ => rfl)) (wf_b wb rfl) (fun z hz => wn z (by omega) (by omega)) R ht
  exact ⟨V2, W2, _, eV _ r1, eW _ r2, r3⟩
theorem c_most : f_X11_mostOfTerm V x = (if x = 0 then 999 else if x = 1 then 10 else 9, ()) := by
  unfold f_X11_mostOfTerm
  by_cases e : x = 0
  · rw [if_neg (fun q => q e), if_pos e]
  · rw [if_pos e, if_neg e]
    by_cases e1 : x = 1
    · rw [if_neg (fun q => q e1), if_pos e1]
    · rw [if_pos e1, if_neg e1]
theorem m_isTerm : f_X12_isTerm W x y = (if (0 ≤ x ∧ x ≤ 2) ∧ 0 ≤ y ∧ y ≤ (if x = 0 then 999 else if x = 1 then 10 else 9) then 1 else 0, ()) := by
  unfold f_X12_isTerm
  by_cases e : x = 0
  · subst e; rw [if_pos rfl, dv_bn2 q_lies]
    by_cases h : 0 ≤ y ∧ y ≤ 999
    · rw [if_pos h, if_pos ⟨by omega, h.1, by rw [if_pos rfl]; exact h.2⟩]
    · rw [if_neg h, if_neg (fun q => h ⟨q.2.1, by have := q.2.2; rw [if_pos rfl] at this; exact this⟩)]
  · rw [if_neg e]
    by_cases e1 : x = 1
    · subst e1; rw [if_pos rfl, dv_bn2 q_lies]
      by_cases h : 0 ≤ y ∧ y ≤ 10
      · rw [if_pos h, if_pos ⟨by omega, h.1, by rw [if_neg (by decide), if_pos rfl]; exact h.2⟩]
      · rw [if_neg h, if_neg (fun q => h ⟨q.2.1, by have := q.2.2; rw [if_neg (by decide), if_pos rfl] at this; exact this⟩)]
    · rw [if_neg e1]
      by_cases e2 : x = 2
      · subst e2; rw [if_pos rfl, dv_bn2 q_lies]
        by_cases h : 0 ≤ y ∧ y ≤ 9
        · rw [if_pos h, if_pos ⟨by omega, h.1, by rw [if_neg (by decide), if_neg (by decide)]; exact h.2⟩]
        · rw [if_neg h, if_neg (fun q => h ⟨q.2.1, by have := q.2.2; rw [if_neg (by decide), if_neg (by decide)] at this; exact this⟩)]
      · rw [if_neg e2, if_neg (fun q => by omega)]
theorem m_termAt (h : 0 ≤ x ∧ x ≤ 2) : f_X12_termAt W x = (if x = 0 then 28 else 64 + x, ()) := by
  unfold f_X12_termAt
  by_cases e : x = 0
  · rw [if_neg (fun q => q e), if_pos e]
  · rw [if_pos e, if_neg e]
    by_cases e1 : x = 1
    · rw [if_neg (fun q => q e1), e1]; rfl
    · rw [if_pos e1, show x = 2 by omega]; rfl
theorem L_terms (h : RR A a V W) : ∃ V' W' u, f_X11_terms V (A 0) x y = (V', u) ∧ f_X12_terms W a x y = (W', u) ∧ RR A a V' W' := by
  have hA := h.1
  obtain ⟨g0, g1, g10, -⟩ := RR_G h
  obtain ⟨kk, e7, e8, e9, e10, e50, e51, e52, ec⟩ := RR_n h
  by_cases hx : (0 ≤ x ∧ x ≤ 2) ∧ 0 ≤ y ∧ y ≤ (if x = 0 then 999 else if x = 1 then 10 else 9)
  case neg =>
    obtain ⟨V2, W2, r1, r2, r3⟩ := RR_bad (k := -1) h (Or.inl ⟨rfl, rfl, rfl⟩)
    refine ⟨V2, W2, -1, ?_, ?_, r3⟩
    · have e : f_X11_terms_21 V (A 0) = (V2, -1) := by unfold f_X11_terms_21; rw [dv_bn2 r1]
      unfold f_X11_terms
      by_cases x1 : x < 0
      · rw [if_pos x1, e]
      · rw [if_neg x1]
        by_cases x2 : 3 ≤ x
        · rw [if_pos x2, e]
        · rw [if_neg x2]
          by_cases y1 : y < 0
          · rw [if_pos y1, e]
          · rw [if_neg y1, dv_bn2 c_most, if_neg (fun q => hx ⟨by omega, by omega, q⟩), e]
    · unfold f_X12_terms
      rw [dv_bn2 m_isTerm, if_neg hx, if_neg (fun q => q rfl), dv_bn2 r2]
  case pos =>
    have eV : ∀ Z, f_X11_answer (dv_u (dv_u V (A 4) 5 x y) (A 15) 4 0 0) (A 0) (V (A 4) 5 x) = Z → f_X11_terms V (A 0) x y = Z := by
      intro Z hZ
      unfold f_X11_terms
      rw [if_neg (by omega), if_neg (by omega), if_neg (by omega), dv_bn2 c_most, if_pos hx.2.2]
      simp only [bq, g0, g1]
      rw [u_b (inj_n hA (by decide) (by decide) (by decide)), g10, dv_bn2 c_clear, bq2, hZ]
    have eW : ∀ Z, f_X12_settled (dv_u W a 2 (if x = 0 then 28 else 64 + x) y) a (W a 2 (if x = 0 then 28 else 64 + x)) = Z → f_X12_terms W a x y = Z := by
      intro Z hZ
      unfold f_X12_terms
      rw [dv_bn2 m_isTerm, if_pos hx, if_pos (by decide), dv_bn2 (m_termAt hx.1), bq, dv_bn2 (m_termAt hx.1), bq, bq2, hZ]
    have w2 : ∀ z, dv_u W a 2 (if x = 0 then 28 else 64 + x) y a 2 z = if z = (if x = 0 then 28 else 64 + x) then y else W a 2 z := fun z => u_if
    have f5 : ∀ c, dv_u V (A 4) 5 x y (A 4) 5 c = if c = x then y else V (A 4) 5 c := fun c => u_if
    have fj : ∀ (j : Nat) (c : Int), j ≠ 5 → dv_u V (A 4) 5 x y (A 4) j c = V (A 4) j c := fun j c n => u_j n
    have fb : ∀ b m z, b ≠ A 4 → dv_u V (A 4) 5 x y b m z = V b m z := fun b m z hb => u_b hb
    have wb : ∀ b m z, ¬ (b = a ∧ m = 2) → dv_u W a 2 (if x = 0 then 28 else 64 + x) y b m z = W b m z := fun b m z hb => by
      by_cases q : b = a
      · exact u_j (fun e => hb ⟨q, e⟩)
      · exact u_b q
    have eq : V (A 4) 5 x = W a 2 (if x = 0 then 28 else 64 + x) := by
      have : x = 0 ∨ x = 1 ∨ x = 2 := by omega
      rcases this with rfl | rfl | rfl
      · exact e50
      · exact e51
      · exact e52
    have ht : 0 ≤ V (A 4) 5 x := by
      obtain ⟨-, -, -, -, -, -, q0, q1, q2⟩ := kk
      have : x = 0 ∨ x = 1 ∨ x = 2 := by omega
      rcases this with rfl | rfl | rfl
      · exact q0.1
      · exact q1.1
      · exact q2.1
    have hb := hx.2
    generalize dv_u V (A 4) 5 x y = V1 at f5 fj fb eV
    generalize dv_u W a 2 (if x = 0 then 28 else 64 + x) y = W1 at w2 wb eW
    have hK : ∀ z, z ≠ 28 → z ≠ 65 → z ≠ 66 → W1 a 2 z = W a 2 z := fun z n0 n1 n2 => by
      rw [w2, if_neg]
      by_cases e : x = 0
      · rw [if_pos e]; exact n0
      · rw [if_neg e]; omega
    have k28 : W1 a 2 28 = if x = 0 then y else W a 2 28 := by
      rw [w2]
      by_cases e : x = 0
      · rw [if_pos e, if_pos rfl, if_pos e]
      · rw [if_neg e, if_neg (by omega), if_neg e]
    have k6 : ∀ j, 1 ≤ j → j ≤ 2 → W1 a 2 (64 + j) = if x = j then y else W a 2 (64 + j) := fun j j1 j2 => by
      rw [w2]
      by_cases e : x = 0
      · rw [if_pos e, if_neg (by omega), if_neg (by omega)]
      · rw [if_neg e]
        by_cases e1 : x = j
        · rw [if_pos (by omega), if_pos e1]
        · rw [if_neg (by omega), if_neg e1]
    have sw : ∀ (j : Int) (u v : Int), (if j = x then u else v) = if x = j then u else v := fun j u v => by
      by_cases e : x = j
      · rw [if_pos e, if_pos e.symm]
      · rw [if_neg e, if_neg (Ne.symm e)]
    have R : flR (A 4) V1 (W1 a 2) 0 := by
      refine ⟨ef_of ⟨?_, ?_, ?_, ?_, ?_, ?_, ?_, fun c c0 c9 => ?_⟩, ?_⟩
      · rw [fj 7 0 (by decide), hK 69 (by decide) (by decide) (by decide), e7]
      · rw [fj 8 0 (by decide), hK 67 (by decide) (by decide) (by decide), e8]
      · rw [fj 9 0 (by decide), hK 68 (by decide) (by decide) (by decide), e9]
      · rw [fj 10 0 (by decide), hK 27 (by decide) (by decide) (by decide), e10]
      · rw [f5, k28, sw, e50]
      · rw [f5, sw, e51]; exact (k6 1 (by decide) (by decide)).symm
      · rw [f5, sw, e52]; exact (k6 2 (by decide) (by decide)).symm
      · rw [fj 0 c (by decide), fj 1 c (by decide), fj 2 c (by decide), fj 3 c (by decide), fj 4 c (by decide), hK _ (by omega) (by omega) (by omega), hK _ (by omega) (by omega) (by omega), hK _ (by omega) (by omega) (by omega), hK _ (by omega) (by omega) (by omega), hK _ (by omega) (by omega) (by omega)]
        exact ec c c0 c9
      · obtain ⟨⟨b7, b8, b9, bc⟩, gd, gs, gl, gw, gp, gy, gm, gz⟩ := kk
        have hc : ∀ c px py, cov (V1 (A 4)) c px py → cov (V (A 4)) c px py := fun c px py => by
          unfold cov
          rw [fj 0 c (by decide), fj 3 c (by decide), fj 4 c (by decide)]
          exact id
        refine ⟨⟨by rw [fj 7 0 (by decide)]; exact b7, by rw [fj 8 0 (by decide)]; exact b8, by rw [fj 9 0 (by decide)]; exact b9, fun c c0 c1 => ?_⟩, fun c d px py c0 c1 d0 d1 kc kd => ?_, fun c c0 c1 => ?_, fun c c0 c1 hx => ?_, by rw [fj 8 0 (by decide), fj 9 0 (by decide)]; exact gw, by rw [fj 10 0 (by decide)]; exact gp, ?_, ?_, ?_⟩
        · rw [fj 7 0 (by decide)] at c1
          rw [fj 0 c (by decide), fj 3 c (by decide), fj 4 c (by decide)]; exact bc c c0 c1
        · rw [fj 7 0 (by decide)] at c1 d1
          exact gd c d px py c0 c1 d0 d1 (hc _ _ _ kc) (hc _ _ _ kd)
        · rw [fj 7 0 (by decide)] at c1
          rw [fj 0 c (by decide), fj 1 c (by decide), fj 2 c (by decide)]; exact gs c c0 c1
        · rw [fj 7 0 (by decide)] at c1
          rw [fj 3 c (by decide)] at hx
          rw [fj 0 c (by decide), fj 3 c (by decide), fj 4 c (by decide), fj 8 0 (by decide), fj 9 0 (by decide)]; exact gl c c0 c1 hx
        · rw [f5, sw]
          by_cases e : x = 0
          · rw [if_pos e]; rw [if_pos e] at hb; exact hb
          · rw [if_neg e]; exact gy
        · rw [f5, sw]
          by_cases e : x = 1
          · rw [if_pos e]; rw [if_neg (by omega), if_pos e] at hb; exact hb
          · rw [if_neg e]; exact gm
        · rw [f5, sw]
          by_cases e : x = 2
          · rw [if_pos e]; rw [if_neg (by omega), if_neg (by omega)] at hb; exact hb
          · rw [if_neg e]; exact gz
    obtain ⟨V2, W2, r1, r2, r3⟩ := RR_clear (t := V (A 4) 5 x) h (cf_b hA (by decide) fb (fun _ => rfl)) (wf_b wb rfl) (fun z hz => hK z (by omega) (by omega) (by omega)) R ht
    exact ⟨V2, W2, _, eV _ r1, eW _ (by rw [← eq]; exact r2), r3⟩
end QSN
section QSO
theorem by_w {w : BitVec 32} {s : Nat} (hs : s ≤ 24) : ((w >>> s) &&& 255#32).toInt = ((w >>> s).toNat % 256 : Nat) ∧ ((w.sshiftRight s).signExtend 8).toNat = (w >>> s).toNat % 256 := by
  constructor
  · have h : ((w >>> s) &&& 255#32).toNat = (w >>> s).toNat % 256 := by
      rw [BitVec.toNat_and]
      exact Nat.and_two_pow_sub_one_eq_mod _ 8
    rw [BitVec.toInt_eq_toNat_cond, h, if_pos (by omega)]
  · have h : (w.sshiftRight s).signExtend 8 = (w >>> s).setWidth 8 := by
      apply BitVec.eq_of_getLsbD_eq
      intro i hi
      rw [BitVec.getLsbD_signExtend, BitVec.getLsbD_setWidth, BitVec.getLsbD_sshiftRight, BitVec.getLsbD_ushiftRight, if_pos (by omega), if_pos (by omega)]
      rw [show decide (32 ≤ i) = false from decide_eq_false (by omega), Bool.not_false, Bool.true_and]
    rw [h, BitVec.toNat_setWidth]
theorem by_b {B : BitVec 8} {n : Nat} (h : B.toNat = n) : byr (n : Int) B.toInt := by
  have hl := B.isLt
  refine ⟨by omega, ?_⟩
  rw [BitVec.toInt_eq_toNat_cond, h]
  by_cases e : 2 * n < 2 ^ 8
  · rw [if_pos e, if_pos (by omega)]
  · rw [if_neg e, if_neg (by omega)]
    rfl
theorem i2b2 {x : Int} : dv_i2b (dv_i2b x) = (Int32.ofInt x).toInt8.toInt := by
  unfold dv_i2b
  rw [Int32.ofInt_toInt, Int8.toInt8_toInt32, Int8.toInt_toInt32]
theorem by_r0 {x : Int} : byr (dv_and (dv_ushr x 0) 255) (dv_i2b (dv_i2b (dv_shr x 0))) := by
  have h := by_w (w := (Int32.ofInt x).toBitVec) (s := 0) (by decide)
  have e1 : dv_and (dv_ushr x 0) 255 = (((Int32.ofInt x).toBitVec >>> 0) &&& 255#32).toInt := by
    unfold dv_and dv_ushr
    rw [Int32.ofInt_toInt]
    rfl
  have e2 : dv_i2b (dv_i2b (dv_shr x 0)) = (((Int32.ofInt x).toBitVec.sshiftRight 0).signExtend 8).toInt := by
    rw [i2b2]
    unfold dv_shr
    rw [Int32.ofInt_toInt]
    rfl
  rw [e1, e2, h.1]
  exact by_b h.2
theorem by_r8 {x : Int} : byr (dv_and (dv_ushr x 8) 255) (dv_i2b (dv_i2b (dv_shr x 8))) := by
  have h := by_w (w := (Int32.ofInt x).toBitVec) (s := 8) (by decide)
  have e1 : dv_and (dv_ushr x 8) 255 = (((Int32.ofInt x).toBitVec >>> 8) &&& 255#32).toInt := by
    unfold dv_and dv_ushr
    rw [Int32.ofInt_toInt]
    rfl
  have e2 : dv_i2b (dv_i2b (dv_shr x 8)) = (((Int32.ofInt x).toBitVec.sshiftRight 8).signExtend 8).toInt := by
    rw [i2b2]
    unfold dv_shr
    rw [Int32.ofInt_toInt]
    rfl
  rw [e1, e2, h.1]
  exact by_b h.2
theorem by_r16 {x : Int} : byr (dv_and (dv_ushr x 16) 255) (dv_i2b (dv_i2b (dv_shr x 16))) := by
  have h := by_w (w := (Int32.ofInt x).toBitVec) (s := 16) (by decide)
  have e1 : dv_and (dv_ushr x 16) 255 = (((Int32.ofInt x).toBitVec >>> 16) &&& 255#32).toInt := by
    unfold dv_and dv_ushr
    rw [Int32.ofInt_toInt]
    rfl
  have e2 : dv_i2b (dv_i2b (dv_shr x 16)) = (((Int32.ofInt x).toBitVec.sshiftRight 16).signExtend 8).toInt := by
    rw [i2b2]
    unfold dv_shr
    rw [Int32.ofInt_toInt]
    rfl
  rw [e1, e2, h.1]
  exact by_b h.2
theorem by_r24 {x : Int} : byr (dv_and (dv_ushr x 24) 255) (dv_i2b (dv_i2b (dv_shr x 24))) := by
  have h := by_w (w := (Int32.ofInt x).toBitVec) (s := 24) (by decide)
  have e1 : dv_and (dv_ushr x 24) 255 = (((Int32.ofInt x).toBitVec >>> 24) &&& 255#32).toInt := by
    unfold dv_and dv_ushr
    rw [Int32.ofInt_toInt]
    rfl
  have e2 : dv_i2b (dv_i2b (dv_shr x 24)) = (((Int32.ofInt x).toBitVec.sshiftRight 24).signExtend 8).toInt := by
    rw [i2b2]
    unfold dv_shr
    rw [Int32.ofInt_toInt]
    rfl
  rw [e1, e2, h.1]
  exact by_b h.2
end QSO
section QSP
variable {V V' V1 W W' W1 : dV} {a b c z t k s p x y n L i j : Int} {A : Nat → Int} {K K' : Int → Int} {φ φ' : Nat → Int → Int}
/-- the tape has changed -/
theorem RR_tp (h : RR A a V W) (f : cf A (fun i _ => i == 9) V V') (g : wf a (fun m => m == 11 || m == 12 || m == 13) W W') (ht : tpR A a V' W') : RR A a V' W' := by
  obtain ⟨h1, h2, h3, h4, -, h6, h7, h8, h9, h10⟩ := h
  exact ⟨h1, G_c h2 (cf_ag f rfl), stR_c (by decide) h3 (cf_ag f rfl) (fun z _ => g 2 _ rfl), imR_c h4 (cf_ag f rfl) (fun z => g 3 z rfl) (fun z => g 4 z rfl), ht, psR_c h6 (cf_ag f rfl) (fun z => g 31 z rfl) (g 33 0 rfl), ppR_c h7 (cf_ag f rfl) (fun z => g 54 z rfl) (g 55 0 rfl), miR_c h8 (cf_ag f rfl) (g 0 0 rfl) (fun z => g 1 z rfl), taR_c h9 (cf_ag f rfl) (g 14 0 rfl) (g 6 0 rfl) (g 47 0 rfl), rdR_c h10 (fun z => f 10 1 z (by decide) (by decide) rfl) (fun z _ => f 14 1 z (by decide) (by decide) rfl) (fun z => g 7 z rfl) (fun z => g 17 z rfl)⟩
theorem L_end (h : RR A a V W) : ∃ V' W' u, f_X11_end V (A 0) x = (V', u) ∧ f_X12_end W a x = (W', u) ∧ RR A a V' W' := by
  have hA := h.1
  obtain ⟨g0, g1, g10, g5, -⟩ := RR_G h
  obtain ⟨-, -, -, -, ⟨t1, t2, t3⟩, -⟩ := id h
  by_cases e : 0 ≤ x ∧ x ≤ W a 13 0
  · refine ⟨dv_u V (A 9) 1 0 x, dv_u W a 13 0 x, x, ?_, ?_, RR_tp h (cf_u hA (by decide) rfl) (wf_u rfl) ⟨by rw [u_e, u_e], by rw [u_e]; omega, fun z z0 z1 => ?_⟩⟩
    · unfold f_X11_end
      rw [if_neg (by omega), bq, g5, bq, t1, if_pos e.2, bq, bq]
    · unfold f_X12_end
      rw [bq, dv_bn2 q_lies, if_pos e, if_pos (by decide), bq]
    · rw [u_e] at z1
      rw [u_j (by decide), u_j (by decide)]
      exact t3 z z0 (by omega)
  · refine ⟨V, W, -1, ?_, ?_, h⟩
    · unfold f_X11_end
      by_cases e1 : x < 0
      · rw [if_pos e1]
      · rw [if_neg e1, bq, g5, bq, t1, if_neg (by omega)]
    · unfold f_X12_end
      rw [bq, dv_bn2 q_lies, if_neg e, if_neg (fun q => q rfl)]
-- twenty bytes
def byc (x j : Int) : Int := dv_and (dv_ushr x (24 - 8 * j)) 255
def bym (x j : Int) : Int := dv_i2b (dv_i2b (dv_shr x (24 - 8 * j)))
theorem byc_r (j0 : 0 ≤ j) (j3 : j ≤ 3) : byr (byc x j) (bym x j) := by
  unfold byc bym
  have : j = 0 ∨ j = 1 ∨ j = 2 ∨ j = 3 := by omega
  rcases this with rfl | rfl | rfl | rfl
  · exact by_r24
  · exact by_r16
  · exact by_r8
  · exact by_r0
theorem c_four (hn : V t 1 0 + 4 ≤ 400) : ∃ V', f_X9_addFour V t x = (V', 0) ∧ (∀ b m z, ¬ (b = t ∧ m ≤ 1) → V' b m z = V b m z) ∧ V' t 1 0 = V t 1 0 + 4 ∧ (∀ z, ¬ (V t 1 0 ≤ z ∧ z < V t 1 0 + 4) → V' t 0 z = V t 0 z) ∧ ∀ j, 0 ≤ j → j < 4 → V' t 0 (V t 1 0 + j) = byc x j := by
  have st : ∀ (U : dV) (j : Int), 0 ≤ j → U t 1 0 < 400 → f_X9_addFour_3b (U, t, x, j) = Sum.inl (dv_u (dv_u U t 0 (U t 1 0) (dv_and (dv_ushr x j) 255)) t 1 0 (U t 1 0 + 1), t, x, j - 8) := by
    intro U j j0 h4
    rw [f_X9_addFour_3e]
    unfold f_X9_addFour_3c
    rw [if_neg (by omega), bq, if_neg (by omega), bq, bq, bq, bq, bq, u_j (by decide), bq, bq, bq]
    rfl
  -- after j bytes
  have go : ∀ m : Nat, m ≤ 4 → ∃ U : dV, dv_lp f_X9_addFour_3b (V, t, x, 24) = dv_lp f_X9_addFour_3b (U, t, x, 24 - 8 * (m : Int)) ∧ (∀ b m' z, ¬ (b = t ∧ m' ≤ 1) → U b m' z = V b m' z) ∧ U t 1 0 = V t 1 0 + m ∧ (∀ z, ¬ (V t 1 0 ≤ z ∧ z < V t 1 0 + (m : Int)) → U t 0 z = V t 0 z) ∧ ∀ j, 0 ≤ j → j < (m : Int) → U t 0 (V t 1 0 + j) = byc x j := by
    intro m
    induction m with
    | zero => intro _; exact ⟨V, rfl, fun _ _ _ _ => rfl, by omega, fun _ _ => rfl, fun j j0 j1 => absurd j1 (by omega)⟩
    | succ m ih =>
      intro hm
      obtain ⟨U, e1, e2, e3, e4, e5⟩ := ih (by omega)
      refine ⟨dv_u (dv_u U t 0 (U t 1 0) (dv_and (dv_ushr x (24 - 8 * (m : Int))) 255)) t 1 0 (U t 1 0 + 1), ?_, fun b m' z hb => ?_, by rw [u_e, e3]; omega, fun z hz => ?_, fun j j0 j1 => ?_⟩
      · rw [e1, dv_lp_s (st U _ (by omega) (by omega)), show 24 - 8 * (m : Int) - 8 = 24 - 8 * ((m + 1 : Nat) : Int) by omega]
      · by_cases q : b = t
        · have q1 : ¬ m' ≤ 1 := fun w => hb ⟨q, w⟩
          rw [u_j (by omega), u_j (by omega)]; exact e2 b m' z hb
        · rw [u_b q, u_b q]; exact e2 b m' z hb
      · rw [u_j (by decide), u_i (by omega)]; exact e4 z (by omega)
      · rw [u_j (by decide)]
        by_cases q : j = (m : Int)
        · rw [q, ← e3, u_e]; rfl
        · rw [u_i (by omega)]; exact e5 j j0 (by omega)
  obtain ⟨U, e1, e2, e3, e4, e5⟩ := go 4 (Nat.le_refl 4)
  refine ⟨U, ?_, e2, e3, e4, e5⟩
  unfold f_X9_addFour
  rw [e1]
  refine dv_lp_e ?_
  rw [f_X9_addFour_3e]
  unfold f_X9_addFour_3c
  rw [if_pos (by decide)]
theorem m_feed {y1 y2 y3 y4 : Int} (hn : W a 13 0 + 20 ≤ 400) : ∃ W', f_X12_feed W a x y1 y2 y3 y4 = (W', W a 13 0 + 20) ∧ wf a (fun m => m == 11 || m == 12 || m == 13) W W' ∧ W' a 13 0 = W a 13 0 + 20 ∧ (∀ z, ¬ (W a 13 0 ≤ z ∧ z < W a 13 0 + 20) → W' a 11 z = W a 11 z) ∧ ∀ k, 0 ≤ k → k < 20 → W' a 11 (W a 13 0 + k) = bym (if k / 4 = 0 then x else if k / 4 = 1 then y1 else if k / 4 = 2 then y2 else if k / 4 = 3 then y3 else y4) (k % 4) := by
  obtain ⟨W1, e1, g1, f5⟩ : ∃ W1, (∀ Z, dv_lp f_X12_feed_55b (W1, a, 0) = Z → f_X12_feed W a x y1 y2 y3 y4 = Z) ∧ (∀ b m z, ¬ (b = a ∧ m = 12) → W1 b m z = W b m z) ∧ ∀ q, 0 ≤ q → q < 5 → W1 a 12 q = if q = 0 then x else if q = 1 then y1 else if q = 2 then y2 else if q = 3 then y3 else y4 := by
    refine ⟨dv_u (dv_u (dv_u (dv_u (dv_u W a 12 0 x) a 12 1 y1) a 12 2 y2) a 12 3 y3) a 12 4 y4, fun Z hZ => ?_, fun b m z hb => ?_, fun q q0 q5 => ?_⟩
    · unfold f_X12_feed
      rw [bq, bq, if_pos hn, bq, bq, bq, bq, bq, hZ]
    · by_cases e : b = a
      · have e2 : m ≠ 12 := fun w => hb ⟨e, w⟩
        rw [u_j e2, u_j e2, u_j e2, u_j e2, u_j e2]
      · rw [u_b e, u_b e, u_b e, u_b e, u_b e]
    · have : q = 0 ∨ q = 1 ∨ q = 2 ∨ q = 3 ∨ q = 4 := by omega
      rcases this with rfl | rfl | rfl | rfl | rfl
      · rw [u_i (by decide), u_i (by decide), u_i (by decide), u_i (by decide), u_e]; rfl
      · rw [u_i (by decide), u_i (by decide), u_i (by decide), u_e]; rfl
      · rw [u_i (by decide), u_i (by decide), u_e]; rfl
      · rw [u_i (by decide), u_e]; rfl
      · rw [u_e]; rfl
  have n13 : W1 a 13 0 = W a 13 0 := g1 a 13 0 (fun q => absurd q.2 (by decide))
  have L : ∃ (W' : dV) (y : Int), dv_lp f_X12_feed_55b (W1, a, 0) = (W', y) ∧ y = W a 13 0 + 20 ∧ (∀ b m z, ¬ (b = a ∧ (m = 11 ∨ m = 13)) → W' b m z = W1 b m z) ∧ W' a 13 0 = W a 13 0 + 20 ∧ (∀ z, ¬ (W a 13 0 ≤ z ∧ z < W a 13 0 + 20) → W' a 11 z = W1 a 11 z) ∧ ∀ k, 0 ≤ k → k < 20 → W' a 11 (W a 13 0 + k) = bym (W1 a 12 (k / 4)) (k % 4) := by
    refine dv_inv (P := fun s => ∃ (U : dV) (j : Int), s = (U, a, j) ∧ 0 ≤ j ∧ j ≤ 20 ∧ (∀ b m z, ¬ (b = a ∧ m = 11) → U b m z = W1 b m z) ∧ (∀ z, ¬ (W a 13 0 ≤ z ∧ z < W a 13 0 + j) → U a 11 z = W1 a 11 z) ∧ ∀ k, 0 ≤ k → k < j → U a 11 (W a 13 0 + k) = bym (W1 a 12 (k / 4)) (k % 4)) (Q := fun q => ∃ (W' : dV) (y : Int), q = (W', y) ∧ y = W a 13 0 + 20 ∧ (∀ b m z, ¬ (b = a ∧ (m = 11 ∨ m = 13)) → W' b m z = W1 b m z) ∧ W' a 13 0 = W a 13 0 + 20 ∧ (∀ z, ¬ (W a 13 0 ≤ z ∧ z < W a 13 0 + 20) → W' a 11 z = W1 a 11 z) ∧ ∀ k, 0 ≤ k → k < 20 → W' a 11 (W a 13 0 + k) = bym (W1 a 12 (k / 4)) (k % 4)) (m := fun s => (20 - s.2.2).toNat) ?_ _ ⟨W1, 0, rfl, by omega, by omega, fun _ _ _ _ => rfl, fun _ _ => rfl, fun k k0 k1 => absurd k1 (by omega)⟩
    rintro q ⟨U, j, rfl, j0, j1, hf, hz, hk⟩
    have u13 : U a 13 0 = W a 13 0 := by rw [hf a 13 0 (fun q => absurd q.2 (by decide)), n13]
    have u12 : ∀ z, U a 12 z = W1 a 12 z := fun z => hf a 12 z (fun q => absurd q.2 (by decide))
    rw [f_X12_feed_55e]
    unfold f_X12_feed_55c
    by_cases e : 20 ≤ j
    · have ej : j = 20 := by omega
      subst ej
      rw [if_pos e, bq, u13, bq, bq, u_e, bq]
      refine Or.inr ⟨_, rfl, _, _, rfl, rfl, fun b m z hb => ?_, u_e, fun z hzz => ?_, fun k k0 k1 => ?_⟩
      · by_cases q : b = a
        · rw [u_j (fun w => hb ⟨q, Or.inr w⟩)]; exact hf b m z (fun w => hb ⟨w.1, Or.inl w.2⟩)
        · rw [u_b q]; exact hf b m z (fun w => q w.1)
      · rw [u_j (by decide)]; exact hz z hzz
      · rw [u_j (by decide)]; exact hk k k0 k1
    · rw [if_neg e, bq, u13, bq, bq, u12, bq, bq, bq, bq, bq, bq, bq, bq]
      refine Or.inl ⟨_, rfl, ⟨_, j + 1, rfl, by omega, by omega, fun b m z hb => ?_, fun z hzz => ?_, fun k k0 k1 => ?_⟩, by dsimp only; omega⟩
      · by_cases q : b = a
        · rw [u_j (fun w => hb ⟨q, w⟩)]; exact hf b m z hb
        · rw [u_b q]; exact hf b m z hb
      · rw [u_i (by omega)]; exact hz z (by omega)
      · by_cases q : k = j
        · rw [q, u_e]; rfl
        · rw [u_i (by omega)]; exact hk k k0 (by omega)
  obtain ⟨W', y, l1, rfl, l3, l4, l5, l6⟩ := L
  refine ⟨W', e1 _ l1, fun m z hm => ?_, l4, fun z hz => by rw [l5 z hz, g1 a 11 z (fun q => absurd q.2 (by decide))], fun k k0 k1 => ?_⟩
  · have hm' : ¬ m = 11 ∧ ¬ m = 12 ∧ ¬ m = 13 := by
      simp only [Bool.or_eq_false_iff, beq_eq_false_iff_ne, ne_eq] at hm
      exact ⟨hm.1.1, hm.1.2, hm.2⟩
    rw [l3 a m z (fun q => by rcases q.2 with q | q; exact hm'.1 q; exact hm'.2.2 q), g1 a m z (fun q => hm'.2.1 q.2)]
  · rw [l6 k k0 k1, f5 (k / 4) (by omega) (by omega)]
theorem L_feed {y1 y2 y3 y4 : Int} (h : RR A a V W) : ∃ V' W' u, f_X11_feed V (A 0) x y1 y2 y3 y4 = (V', u) ∧ f_X12_feed W a x y1 y2 y3 y4 = (W', u) ∧ RR A a V' W' := by
  have hA := h.1
  obtain ⟨g0, g1, g10, g5, -⟩ := RR_G h
  obtain ⟨-, -, -, -, ⟨t1, t2, t3⟩, -⟩ := id h
  by_cases e : W a 13 0 + 20 ≤ 400
  · have n0 : A 0 ≠ A 9 := inj_n hA (by decide) (by decide) (by decide)
    obtain ⟨V1, a1, a2, a3, a4, a5⟩ := c_four (V := V) (t := A 9) (x := x) (by omega)
    obtain ⟨V2, b1, b2, b3, b4, b5⟩ := c_four (V := V1) (t := A 9) (x := y1) (by omega)
    obtain ⟨V3, c1, c2, c3, c4, c5⟩ := c_four (V := V2) (t := A 9) (x := y2) (by omega)
    obtain ⟨V4, d1, d2, d3, d4, d5⟩ := c_four (V := V3) (t := A 9) (x := y3) (by omega)
    obtain ⟨V5, f1, f2, f3, f4, f5⟩ := c_four (V := V4) (t := A 9) (x := y4) (by omega)
    obtain ⟨W', w1, w2, w3, w4, w5⟩ := m_feed (W := W) (a := a) (x := x) (y1 := y1) (y2 := y2) (y3 := y3) (y4 := y4) e
    have p1 : V1 (A 0) 5 0 = A 9 := by rw [a2 _ _ _ (fun q => n0 q.1), g5]
    have p2 : V2 (A 0) 5 0 = A 9 := by rw [b2 _ _ _ (fun q => n0 q.1), p1]
    have p3 : V3 (A 0) 5 0 = A 9 := by rw [c2 _ _ _ (fun q => n0 q.1), p2]
    have p4 : V4 (A 0) 5 0 = A 9 := by rw [d2 _ _ _ (fun q => n0 q.1), p3]
    have p5 : V5 (A 0) 5 0 = A 9 := by rw [f2 _ _ _ (fun q => n0 q.1), p4]
    have F : cf A (fun i _ => i == 9) V V5 := cf_b hA (j := 9) (by decide) (fun b m z hb => by rw [f2 b m z (fun q => hb q.1), d2 b m z (fun q => hb q.1), c2 b m z (fun q => hb q.1), b2 b m z (fun q => hb q.1), a2 b m z (fun q => hb q.1)]) (fun _ => rfl)
    have n5 : V5 (A 9) 1 0 = W a 13 0 + 20 := by omega
    refine ⟨V5, W', W a 13 0 + 20, ?_, w1, RR_tp h F w2 ⟨by rw [n5, w3], by rw [w3]; omega, fun z z0 z1 => ?_⟩⟩
    · unfold f_X11_feed
      rw [bq, g5, bq, t1, bq, if_pos e, bq, dv_bn2 a1, bq, p1, dv_bn2 b1, bq, p2, dv_bn2 c1, bq, p3, dv_bn2 d1, bq, p4, dv_bn2 f1, bq, p5, bq, n5]
    · rw [w3] at z1
      by_cases e0 : z < W a 13 0
      · rw [f4 z (by omega), d4 z (by omega), c4 z (by omega), b4 z (by omega), a4 z (by omega), w4 z (by omega)]
        exact t3 z z0 e0
      · obtain ⟨k, hk⟩ : ∃ k, k = z - W a 13 0 := ⟨_, rfl⟩
        have hz : z = W a 13 0 + k := by omega
        have hr := byc_r (x := if k / 4 = 0 then x else if k / 4 = 1 then y1 else if k / 4 = 2 then y2 else if k / 4 = 3 then y3 else y4) (j := k % 4) (by omega) (by omega)
        rw [hz, w5 k (by omega) (by omega)]
        have hq : k / 4 = 0 ∨ k / 4 = 1 ∨ k / 4 = 2 ∨ k / 4 = 3 ∨ k / 4 = 4 := by omega
        rcases hq with q | q | q | q | q
        · rw [q, if_pos rfl] at hr ⊢
          rw [f4 _ (by omega), d4 _ (by omega), c4 _ (by omega), b4 _ (by omega), show W a 13 0 + k = V (A 9) 1 0 + k % 4 by omega, a5 (k % 4) (by omega) (by omega)]
          exact hr
        · rw [q, if_neg (by decide), if_pos rfl] at hr ⊢
          rw [f4 _ (by omega), d4 _ (by omega), c4 _ (by omega), show W a 13 0 + k = V1 (A 9) 1 0 + k % 4 by omega, b5 (k % 4) (by omega) (by omega)]
          exact hr
        · rw [q, if_neg (by decide), if_neg (by decide), if_pos rfl] at hr ⊢
          rw [f4 _ (by omega), d4 _ (by omega), show W a 13 0 + k = V2 (A 9) 1 0 + k % 4 by omega, c5 (k % 4) (by omega) (by omega)]
          exact hr
        · rw [q, if_neg (by decide), if_neg (by decide), if_neg (by decide), if_pos rfl] at hr ⊢
          rw [f4 _ (by omega), show W a 13 0 + k = V3 (A 9) 1 0 + k % 4 by omega, d5 (k % 4) (by omega) (by omega)]
          exact hr
        · rw [q, if_neg (by decide), if_neg (by decide), if_neg (by decide), if_neg (by decide)] at hr ⊢
          rw [show W a 13 0 + k = V4 (A 9) 1 0 + k % 4 by omega, f5 (k % 4) (by omega) (by omega)]
          exact hr
  · refine ⟨V, W, -1, ?_, ?_, h⟩
    · unfold f_X11_feed
      rw [bq, g5, bq, t1, bq, if_neg e]
    · unfold f_X12_feed
      rw [bq, bq, if_neg e]
end QSP
section QSQ
variable {V V' V0 V1 V2 W W' W0 W1 W2 : dV} {a b c z t k s p x y n L i j came lost : Int} {A : Nat → Int} {K K' : Int → Int} {φ φ' : Nat → Int → Int} {fl : Int}
theorem fl_add (h : flR fl V (W a 2) 0) (hs : 1 ≤ s ∧ s ≤ 12) (hk : 0 ≤ k ∧ k ≤ 3) (hp : 0 ≤ p ∧ p ≤ 9) (hn : V fl 7 0 < 9) : ∃ V' W', f_X1_add V fl s k p = (V', V fl 7 0) ∧ f_X12_adds W a s k p = (W', 0) ∧ (∀ b m z, b ≠ fl → V' b m z = V b m z) ∧ (∀ b m z, ¬ (b = a ∧ m = 2) → W' b m z = W b m z) ∧ (∀ z, 47 ≤ z → z ≠ 69 → W' a 2 z = W a 2 z) ∧ flR fl V' (W' a 2) 0 ∧ V' fl 7 0 = V fl 7 0 + 1 := by
  obtain ⟨k1, k1'⟩ := h
  have e7 : V fl 7 0 = W a 2 69 := (ef_n k1).1
  have n0 := k1'.1.1
  obtain ⟨V', eV, f1, f2, f3, f4⟩ := c_add1 (V := V) (fl := fl) hs hk hp hn
  obtain ⟨W', eW, g1, g2⟩ := m_adds (W := W) (a := a) (s := s) (k := k) (p := p) (by omega)
  refine ⟨V', W', eV, eW, f1, g1, fun z z0 z1 => ?_, ⟨?_, ?_⟩, f3⟩
  · rw [g2, if_neg z1, if_neg (by omega), if_neg (by omega), if_neg (by omega), if_neg (by omega)]
  · exact ef_add (φ := V fl) k1 (by omega) f3 f4 (fun z => f2 5 z (by decide) (by decide) (by decide) (by decide) (by decide) (by decide)) (f2 8 0 (by decide) (by decide) (by decide) (by decide) (by decide) (by decide)) (f2 9 0 (by decide) (by decide) (by decide) (by decide) (by decide) (by decide)) (f2 10 0 (by decide) (by decide) (by decide) (by decide) (by decide) (by decide)) g2
  · exact kg_add k1' hn hs hk hp f3 f4 (fun z => f2 5 z (by decide) (by decide) (by decide) (by decide) (by decide) (by decide)) (f2 8 0 (by decide) (by decide) (by decide) (by decide) (by decide) (by decide)) (f2 9 0 (by decide) (by decide) (by decide) (by decide) (by decide) (by decide)) (f2 10 0 (by decide) (by decide) (by decide) (by decide) (by decide) (by decide))
theorem RR_rowend (h : RR A a V W) (f : cf A (fun i m => i == 4 || (i == 0 && m == 16) || i == 9 || (i == 15 && m == 4)) V V') (g : wf a (fun m => m == 2 || m == 6 || m == 13 || m == 33) W W') (hK : ∀ z, (47 ≤ z ∧ z < 65) ∨ (70 ≤ z ∧ z < 5680) → W' a 2 z = W a 2 z) (hf : flR (A 4) V' (W' a 2) 0) (h9 : V' (A 9) 1 0 = 0) (h13 : W' a 13 0 = 0) (h15 : V' (A 15) 4 0 = 0) (h33 : W' a 33 0 = 0) (h16 : V' (A 0) 16 0 = W' a 6 0) : RR A a V' W' := by
  obtain ⟨h1, h2, ⟨-, k2, k3⟩, h4, h5, -, h7, h8, h9', h10⟩ := h
  refine ⟨h1, G_c h2 (cf_ag f rfl), ⟨hf, seR_c k2 (f 1 7 0 (by decide) (by decide) rfl) (fun z _ _ => ⟨f 1 2 z (by decide) (by decide) rfl, f 1 3 z (by decide) (by decide) rfl, f 1 4 z (by decide) (by decide) rfl⟩) (fun z hz => by rw [Int.zero_add]; exact hK z (by omega)), laR_c (by decide) k3 (cf_ag f rfl) (fun z hz => by rw [Int.zero_add]; exact hK z (by omega))⟩, imR_c h4 (cf_ag f rfl) (fun z => g 3 z rfl) (fun z => g 4 z rfl), ⟨by rw [h9, h13], by rw [h13]; decide, fun z z0 z1 => absurd z1 (by omega)⟩, psR_0 h15 h33, ppR_c h7 (cf_ag f rfl) (fun z => g 54 z rfl) (g 55 0 rfl), miR_c h8 (cf_ag f rfl) (g 0 0 rfl) (fun z => g 1 z rfl), ⟨?_, h16, ?_⟩, rdR_c h10 (fun z => f 10 1 z (by decide) (by decide) rfl) (fun z _ => f 14 1 z (by decide) (by decide) rfl) (fun z => g 7 z rfl) (fun z => g 17 z rfl)⟩
  · rw [f 0 15 0 (by decide) (by decide) rfl, g 14 0 rfl]; exact h9'.1
  · rw [f 0 17 0 (by decide) (by decide) rfl, g 47 0 rfl]; exact h9'.2.2
/-- on the way through a row -/
def rwI (A : Nat → Int) (a L : Int) (V0 W0 V W : dV) : Prop := (V (A 0) 0 0 = A 1 ∧ V (A 1) 0 0 = A 4 ∧ V (A 0) 10 0 = A 15 ∧ V (A 0) 5 0 = A 9) ∧ V (A 9) 1 0 = L ∧ (∀ z, 0 ≤ z → z < L → byr (V (A 9) 0 z) (W a 11 z)) ∧ flR (A 4) V (W a 2) 0 ∧ cf A (fun i _ => i == 4) V0 V ∧ wf a (fun m => m == 2 || m == 6 || m == 13) W0 W ∧ (∀ z, 47 ≤ z → z ≠ 69 → W a 2 z = W0 a 2 z) ∧ W a 13 0 = 0
theorem rw_end (hA : inj A) (h : RR A a V0 W0) (hI : rwI A a L V0 W0 V W) (hc : 0 ≤ came) (hl : W a 6 0 = lost) (hi : L ≤ i) (hj : L < j + 3) : ∃ V' W', f_X11_row_23b (V, A 0, came, lost, i) = Sum.inr (V', came) ∧ f_X12_row_40b (W, L, a, came, j) = Sum.inr (W', came) ∧ RR A a V' W' := by
  obtain ⟨⟨g0, g1, g10, g5⟩, hL, hB, hf, F, GW, hK, h13⟩ := hI
  have R : RR A a (dv_u (dv_u (dv_u V (A 0) 16 0 lost) (A 9) 1 0 0) (A 15) 4 0 0) (dv_u W a 33 0 0) := by
    refine RR_rowend h (cf_t (cf_t (cf_t (cf_m F (fun i m hL => ?_)) (cf_u hA (by decide) rfl)) (cf_u hA (by decide) rfl)) (cf_u hA (by decide) rfl)) (wf_t (wf_m GW (fun m hM => ?_)) (wf_u rfl)) (fun z hz => by rw [u_j (by decide)]; exact hK z (by omega) (by omega)) (flR_c hf (fun j c _ _ => ?_) (fun z _ => u_j (by decide))) ?_ (by rw [u_j (by decide)]; exact h13) u_e u_e ?_
    · simp only [Bool.or_eq_false_iff] at hL; exact hL.1.1.1
    · simp only [Bool.or_eq_false_iff] at hM ⊢; exact hM.1
    · rw [u_b (inj_n hA (by decide) (by decide) (by decide)), u_b (inj_n hA (by decide) (by decide) (by decide)), u_b (inj_n hA (by decide) (by decide) (by decide))]
    · rw [u_b (inj_n hA (by decide) (by decide) (by decide)), u_e]
    · rw [u_b (inj_n hA (by decide) (by decide) (by decide)), u_b (inj_n hA (by decide) (by decide) (by decide)), u_e, u_j (by decide), hl]
  obtain ⟨V2, W2, r1, r2, r3⟩ := RR_good (t := came) R hc
  refine ⟨V2, W2, ?_, ?_, r3⟩
  · have e5 : dv_u V (A 0) 16 0 lost (A 0) 5 0 = A 9 := by rw [u_j (by decide), g5]
    have e10 : dv_u (dv_u V (A 0) 16 0 lost) (A 9) 1 0 0 (A 0) 10 0 = A 15 := by rw [u_b (inj_n hA (by decide) (by decide) (by decide)), u_j (by decide), g10]
    rw [f_X11_row_23e]
    unfold f_X11_row_23c
    rw [bq, g5, bq, hL, if_pos hi, bq, bq, e5, bq, bq, e10, dv_bn2 c_clear, dv_bn2 r1]
  · rw [f_X12_row_40e]
    unfold f_X12_row_40c
    rw [bq, if_pos hj, m_settled, dv_bn2 r2]
theorem byr_p {b' : Int} (h : byr b b') (l u : Int) (hl : 0 ≤ l) (hu : u ≤ 127) : (l ≤ b ∧ b ≤ u ↔ l ≤ b' ∧ b' ≤ u) ∧ (l ≤ b ∧ b ≤ u → b' = b) := by
  unfold byr at h
  obtain ⟨h1, h2⟩ := h
  split at h2 <;> omega
theorem rw_L (hA : inj A) (h : RR A a V0 W0) (m : Nat) : ∀ (V W : dV) (came lost i : Int), L - i ≤ m → rwI A a L V0 W0 V W → (0 ≤ L ∧ L ≤ 400) → 0 ≤ i → i ≤ L → i % 3 = 0 → (0 ≤ came ∧ came ≤ i) → (0 ≤ lost ∧ lost ≤ i) → W a 6 0 = lost + (if L % 3 = 0 then 0 else 1) → ∃ V' W' y, dv_lp f_X11_row_23b (V, A 0, came, lost, i) = (V', y) ∧ dv_lp f_X12_row_40b (W, L, a, came, i) = (W', y) ∧ RR A a V' W' := by
  induction m with
  | zero =>
    intro V W came lost i hm hI hL i0 iL i3 hc hl h6
    have e : i = L := by omega
    rw [if_pos (by rw [← e]; exact i3)] at h6
    obtain ⟨V', W', e1, e2, r⟩ := rw_end (i := i) (j := i) (came := came) (lost := lost) hA h hI hc.1 (by omega) (by omega) (by omega)
    exact ⟨V', W', came, dv_lp_e e1, dv_lp_e e2, r⟩
  | succ m ih =>
    intro V W came lost i hm hI hL i0 iL i3 hc hl h6
    by_cases e : i = L
    · rw [if_pos (by rw [← e]; exact i3)] at h6
      obtain ⟨V', W', e1, e2, r⟩ := rw_end (i := i) (j := i) (came := came) (lost := lost) hA h hI hc.1 (by omega) (by omega) (by omega)
      exact ⟨V', W', came, dv_lp_e e1, dv_lp_e e2, r⟩
    by_cases e3 : i + 2 < L
    case neg =>
      -- what is left is no whole carpet
      rw [if_neg (by omega)] at h6
      obtain ⟨⟨g0, g1, g10, g5⟩, hLL, -⟩ := id hI
      obtain ⟨V', W', e1, e2, r⟩ := rw_end (i := i + 3) (j := i) (came := came) (lost := lost + 1) hA h hI hc.1 h6 (by omega) (by omega)
      refine ⟨V', W', came, ?_, dv_lp_e e2, r⟩
      have st : f_X11_row_23b (V, A 0, came, lost, i) = Sum.inl (V, A 0, came, lost + 1, i + 3) := by
        rw [f_X11_row_23e]
        unfold f_X11_row_23c f_X11_row_97 f_X11_row_100
        rw [bq, g5, bq, hLL, if_neg (by omega), bq, bq, bq, if_pos (by omega), bq, dv_add_ok (by omega) (by omega) (by omega) (by omega) (by omega) (by omega), bq]
      rw [dv_lp_s st]
      exact dv_lp_e e1
    case pos =>
      obtain ⟨⟨g0, g1, g10, g5⟩, hLL, hB, hf, F, GW, hK, h13⟩ := id hI
      have b0 := hB i i0 (by omega)
      have b1 := hB (i + 1) (by omega) (by omega)
      have b2 := hB (i + 2) (by omega) (by omega)
      obtain ⟨q0, q0'⟩ := byr_p b0 1 12 (by decide) (by decide)
      obtain ⟨q1, q1'⟩ := byr_p b1 0 3 (by decide) (by decide)
      obtain ⟨q2, q2'⟩ := byr_p b2 0 9 (by decide) (by decide)
      have e7 : V (A 4) 7 0 = W a 2 69 := (ef_n hf.1).1
      have n7 : 0 ≤ V (A 4) 7 0 ∧ V (A 4) 7 0 ≤ 9 := hf.2.1.1
      -- fluff
      have FL : ∀ r : Int, r < 0 → f_X1_add V (A 4) (V (A 9) 0 i) (V (A 9) 0 (i + 1)) (V (A 9) 0 (i + 2)) = (V, r) → f_X12_row_40b (W, L, a, came, i) = Sum.inl (dv_u W a 6 0 (dv_add (W a 6 0) 1), L, a, came, i + 3) → ∃ V' W' y, dv_lp f_X11_row_23b (V, A 0, came, lost, i) = (V', y) ∧ dv_lp f_X12_row_40b (W, L, a, came, i) = (W', y) ∧ RR A a V' W' := by
        intro r hr ha hw
        have st : f_X11_row_23b (V, A 0, came, lost, i) = Sum.inl (V, A 0, came, lost + 1, i + 3) := by
          rw [f_X11_row_23e]
          unfold f_X11_row_23c f_X11_row_97 f_X11_row_100
          simp only [bq, g0, g1, g5]
          rw [hLL, if_neg (by omega), if_neg (by omega), dv_bn2 ha, if_pos hr, dv_add_ok (by omega) (by omega) (by omega) (by omega) (by omega) (by omega)]
        have hl6 : W a 6 0 ≤ 401 ∧ 0 ≤ W a 6 0 := by rw [h6]; split <;> omega
        rw [dv_lp_s st, dv_lp_s hw]
        refine ih V _ came (lost + 1) (i + 3) (by omega) ⟨⟨g0, g1, g10, g5⟩, hLL, fun z z0 z1 => by rw [u_j (by decide)]; exact hB z z0 z1, flR_c hf (fun _ _ _ _ => rfl) (fun z _ => u_j (by decide)), F, wf_t GW (wf_u rfl), fun z z0 z1 => by rw [u_j (by decide)]; exact hK z z0 z1, by rw [u_j (by decide)]; exact h13⟩ hL (by omega) (by omega) (by omega) (by omega) (by omega) ?_
        rw [u_e, dv_add_ok (by omega) (by omega) (by omega) (by omega) (by omega) (by omega), h6]
        omega
      by_cases hv : (1 ≤ V (A 9) 0 i ∧ V (A 9) 0 i ≤ 12) ∧ (0 ≤ V (A 9) 0 (i + 1) ∧ V (A 9) 0 (i + 1) ≤ 3) ∧ 0 ≤ V (A 9) 0 (i + 2) ∧ V (A 9) 0 (i + 2) ≤ 9
      · have hv' : (1 ≤ W a 11 i ∧ W a 11 i ≤ 12) ∧ (0 ≤ W a 11 (i + 1) ∧ W a 11 (i + 1) ≤ 3) ∧ 0 ≤ W a 11 (i + 2) ∧ W a 11 (i + 2) ≤ 9 := ⟨q0.mp hv.1, q1.mp hv.2.1, q2.mp hv.2.2⟩
        by_cases h9 : V (A 4) 7 0 < 9
        · obtain ⟨V1, W1, eV, eW, f1, f2, f3, f4, f5⟩ := fl_add (a := a) hf hv.1 hv.2.1 hv.2.2 h9
          have st : f_X11_row_23b (V, A 0, came, lost, i) = Sum.inl (V1, A 0, came + 1, lost, i + 3) := by
            rw [f_X11_row_23e]
            unfold f_X11_row_23c f_X11_row_97 f_X11_row_100
            simp only [bq, g0, g1, g5]
            rw [hLL, if_neg (by omega), if_neg (by omega), dv_bn2 eV, if_neg (by omega), dv_add_ok (by omega) (by omega) (by omega) (by omega) (by omega) (by omega)]
          have stW : f_X12_row_40b (W, L, a, came, i) = Sum.inl (dv_u W1 a 6 0 (W1 a 6 0 + 0), L, a, came + 1, i + 3) := by
            rw [f_X12_row_40e]
            unfold f_X12_row_40c f_X12_row_122x3
            rw [bq, if_neg (by omega), dv_bn2 q_many, if_neg (by omega), bq, bq, bq, bq, bq, dv_bn2 q_canBe, if_pos hv', if_neg (by decide), bq, bq, bq, bq, bq, q0' hv.1, q1' hv.2.1, q2' hv.2.2, dv_bn2 eW, bq, bq, bq, bq, bq, dv_add_ok (by omega) (by omega) (by omega) (by omega) (by omega) (by omega)]
          rw [dv_lp_s st, dv_lp_s stW]
          have n0 : ∀ {i : Nat}, i < 38 → i ≠ 4 → ∀ m z, V1 (A i) m z = V (A i) m z := fun hi hn m z => f1 _ m z (inj_n hA hi (by decide) hn)
          have w6 : W1 a 6 0 = W a 6 0 := f2 a 6 0 (fun q => absurd q.2 (by decide))
          refine ih V1 _ (came + 1) lost (i + 3) (by omega) ⟨⟨by rw [n0 (by decide) (by decide), g0], by rw [n0 (by decide) (by decide), g1], by rw [n0 (by decide) (by decide), g10], by rw [n0 (by decide) (by decide), g5]⟩, by rw [n0 (by decide) (by decide), hLL], fun z z0 z1 => by rw [n0 (by decide) (by decide), u_j (by decide), f2 a 11 z (fun q => absurd q.2 (by decide))]; exact hB z z0 z1, flR_c f4 (fun _ _ _ _ => rfl) (fun z _ => u_j (by decide)), cf_t F (cf_b hA (by decide) f1 (fun _ => rfl)), wf_t (wf_t GW (wf_b f2 rfl)) (wf_u rfl), fun z z0 z1 => by rw [u_j (by decide), f3 z z0 z1]; exact hK z z0 z1, by rw [u_j (by decide), f2 a 13 0 (fun q => absurd q.2 (by decide))]; exact h13⟩ hL (by omega) (by omega) (by omega) (by omega) (by omega) ?_
          rw [u_e, w6, h6]
          omega
        · refine FL (-5) (by decide) (c_add5 hv.1 hv.2.1 hv.2.2 h9) ?_
          rw [f_X12_row_40e]
          unfold f_X12_row_40c f_X12_row_122
          rw [bq, if_neg (by omega), dv_bn2 q_many, if_pos (by omega), bq, bq, bq, bq, bq, Int.add_zero]
      · refine FL (-1) (by decide) (c_add0 hv) ?_
        have hv' : ¬ ((1 ≤ W a 11 i ∧ W a 11 i ≤ 12) ∧ (0 ≤ W a 11 (i + 1) ∧ W a 11 (i + 1) ≤ 3) ∧ 0 ≤ W a 11 (i + 2) ∧ W a 11 (i + 2) ≤ 9) := fun q => hv ⟨q0.mpr q.1, q1.mpr q.2.1, q2.mpr q.2.2⟩
        rw [f_X12_row_40e]
        unfold f_X12_row_40c f_X12_row_122 f_X12_row_122x2
        by_cases h9 : 9 ≤ W a 2 69
        · rw [bq, if_neg (by omega), dv_bn2 q_many, if_pos h9, bq, bq, bq, bq, bq, Int.add_zero]
        · rw [bq, if_neg (by omega), dv_bn2 q_many, if_neg h9, bq, bq, bq, bq, bq, dv_bn2 q_canBe, if_neg hv', if_pos rfl, bq, bq, bq, bq, bq, Int.add_zero]
theorem L_row (h : RR A a V W) : ∃ V' W' u, f_X11_row V (A 0) = (V', u) ∧ f_X12_row W a = (W', u) ∧ RR A a V' W' := by
  have hA := h.1
  obtain ⟨g0, g1, g10, g5, -⟩ := RR_G h
  obtain ⟨-, -, ⟨hf, -, -⟩, -, ⟨t1, t2, t3⟩, -⟩ := id h
  have hf : flR (A 4) V (W a 2) 0 := hf
  by_cases e : W a 13 0 = 0
  · have R : RR A a V (dv_u W a 13 0 0) := RR_tp h cf_r (wf_u rfl) ⟨by rw [u_e, t1, e], by rw [u_e]; decide, fun z z0 z1 => absurd z1 (by rw [u_e]; omega)⟩
    obtain ⟨V2, W2, r1, r2, r3⟩ := RR_bad (k := -6) R (Or.inr (Or.inr (Or.inr (Or.inr ⟨rfl, rfl, rfl⟩))))
    refine ⟨V2, W2, -6, ?_, ?_, r3⟩
    · unfold f_X11_row
      rw [bq, g5, bq, t1, if_neg (fun q => q e), dv_bn2 r1]
    · unfold f_X12_row
      rw [bq, bq, if_neg (fun q => q e), dv_bn2 r2]
  · have G : ∀ v, rwI A a (W a 13 0) V W V (dv_u (dv_u W a 13 0 0) a 6 0 v) := fun v => ⟨⟨g0, g1, g10, g5⟩, t1, fun z z0 z1 => by rw [u_j (by decide), u_j (by decide)]; exact t3 z z0 z1, flR_c hf (fun _ _ _ _ => rfl) (fun z _ => by rw [u_j (by decide), u_j (by decide)]), cf_r, wf_t (wf_u rfl) (wf_u rfl), fun z _ _ => by rw [u_j (by decide), u_j (by decide)], by rw [u_j (by decide), u_e]⟩
    obtain ⟨V', W', y, e1, e2, r⟩ := rw_L hA h (W a 13 0).toNat V (dv_u (dv_u W a 13 0 0) a 6 0 (if W a 13 0 % 3 = 0 then 0 else 1)) 0 0 0 (by omega) (G _) t2 (by decide) t2.1 (by decide) (by decide) (by decide) (by rw [u_e]; omega)
    refine ⟨V', W', y, ?_, ?_, r⟩
    · unfold f_X11_row
      rw [bq, g5, bq, t1, if_pos e, e1]
    · unfold f_X12_row f_X12_row_35
      rw [bq, bq, if_pos e, bq]
      by_cases e3 : W a 13 0 % 3 = 0
      · rw [if_pos e3] at e2
        rw [if_neg (fun q => q e3), bq, e2]
      · rw [if_neg e3] at e2
        rw [if_pos e3, bq, e2]
end QSQ
section QSR
variable {V V' V0 V1 V2 W W' W0 W1 W2 : dV} {a b b' c z t k s p x y n L i j u o : Int} {A : Nat → Int} {K K' : Int → Int}
/-- the stand has changed, but for its floor -/
theorem RR_st (h : RR A a V W) (f : cf A (fun i m => (i == 1 && 2 ≤ m) || (20 ≤ i && i < 26)) V V') (g : wf a (fun m => m == 2) W W') (hK : ∀ z, (0 ≤ z ∧ z < 47) ∨ (65 ≤ z ∧ z < 70) → W' a 2 z = W a 2 z) (hs : seR (A 1) V' (W' a 2) 0) (hl : laR A 0 V' (W' a 2) 0) : RR A a V' W' := by
  obtain ⟨h1, h2, ⟨k1, -, -⟩, h4, h5, h6, h7, h8, h9, h10⟩ := h
  exact ⟨h1, G_c h2 (cf_ag f rfl), ⟨flR_c k1 (fun j c hj h6 => (f 4 j c (by decide) (by omega) (by simp)).symm) (fun z hz => by rw [Int.zero_add]; exact hK z hz), hs, hl⟩, imR_c h4 (cf_ag f rfl) (fun z => g 3 z rfl) (fun z => g 4 z rfl), tpR_c h5 (cf_ag f rfl) (fun z => g 11 z rfl) (g 13 0 rfl), psR_c h6 (cf_ag f rfl) (fun z => g 31 z rfl) (g 33 0 rfl), ppR_c h7 (cf_ag f rfl) (fun z => g 54 z rfl) (g 55 0 rfl), miR_c h8 (cf_ag f rfl) (g 0 0 rfl) (fun z => g 1 z rfl), taR_c h9 (cf_ag f rfl) (g 14 0 rfl) (g 6 0 rfl) (g 47 0 rfl), rdR_c h10 (fun z => f 10 1 z (by decide) (by decide) rfl) (fun z _ => f 14 1 z (by decide) (by decide) rfl) (fun z => g 7 z rfl) (fun z => g 17 z rfl)⟩
theorem c_lawOf : f_X8_lawOf V s p = (if 0 ≤ p ∧ p < V s 5 0 then V s 1 p else -1, ()) := by
  unfold f_X8_lawOf
  by_cases e : p < 0
  · rw [if_pos e, if_neg (by omega)]
  · rw [if_neg e, bq]
    by_cases e1 : V s 5 0 ≤ p
    · rw [if_pos e1, if_neg (by omega)]
    · rw [if_neg e1, if_pos (by omega), bq]
theorem L_force (h : RR A a V W) : ∃ V' W' u, f_X11_force V (A 0) p = (V', u) ∧ f_X12_force W a p = (W', u) ∧ RR A a V' W' := by
  have hA := h.1
  obtain ⟨g0, -⟩ := RR_G h
  obtain ⟨-, ⟨-, -, -, gk⟩, ⟨-, k2, k3⟩, -⟩ := id h
  have g1 := (gk 0 (by decide)).2
  obtain ⟨l1, l2, l3, l4, l5⟩ := id k3
  have l1 : V (A 1) 5 0 = W a 2 71 := by have := l1; rw [Int.zero_add] at this; exact this
  have l3 : V (A 1) 6 0 = W a 2 72 := by have := l3; rw [Int.zero_add] at this; exact this
  have l2 : 0 ≤ V (A 1) 5 0 ∧ V (A 1) 5 0 ≤ 6 := l2
  by_cases e : -1 ≤ p ∧ p < W a 2 71
  · have R1 : RR A a (dv_u V (A 1) 6 0 p) (dv_u W a 2 72 p) := by
      have n1 : ∀ {i : Nat}, i < 38 → i ≠ 1 → ∀ m z, dv_u V (A 1) 6 0 p (A i) m z = V (A i) m z := fun hi hn m z => u_b (inj_n hA hi (by decide) hn)
      refine RR_st h (cf_u hA (by decide) rfl) (wf_u rfl) (fun z hz => u_i (by omega)) (seR_c k2 (u_j (by decide)) (fun z _ _ => ⟨u_j (by decide), u_j (by decide), u_j (by decide)⟩) (fun z hz => u_i (by omega))) ⟨?_, ?_, ?_, ?_, fun t ht => ?_⟩
      · show dv_u V (A 1) 6 0 p (A 1) 5 0 = dv_u W a 2 72 p a 2 71
        rw [u_j (by decide), u_i (by decide), l1]
      · show 0 ≤ dv_u V (A 1) 6 0 p (A 1) 5 0 ∧ dv_u V (A 1) 6 0 p (A 1) 5 0 ≤ 6
        rw [u_j (by decide)]; exact l2
      · show dv_u V (A 1) 6 0 p (A 1) 6 0 = dv_u W a 2 72 p a 2 72
        rw [u_e, u_e]
      · show -1 ≤ dv_u V (A 1) 6 0 p (A 1) 6 0 ∧ dv_u V (A 1) 6 0 p (A 1) 6 0 < dv_u V (A 1) 6 0 p (A 1) 5 0
        rw [u_e, u_j (by decide), l1]; exact e
      · have ht : (t : Int) < dv_u V (A 1) 6 0 p (A 1) 5 0 := ht
        rw [u_j (by decide)] at ht
        exact txR_c (by omega) (by omega) (l5 t ht) (fun z _ => n1 (by omega) (by omega) 0 z) (fun z _ _ => n1 (by omega) (by omega) 1 z) (n1 (by omega) (by omega) 2 0) (n1 (by omega) (by omega) 3 0) (fun z hz => u_i (by omega))
    have R2 := RR_mi R1 (V' := dv_u (dv_u V (A 1) 6 0 p) (A 0) 14 0 0) (W' := dv_u (dv_u W a 2 72 p) a 0 0 0) (cf_u hA (by decide) rfl) (wf_u rfl) (by
      obtain ⟨-, -, -, -, -, -, -, ⟨hm, -⟩, -⟩ := id R1
      have e : ∀ z, dv_u (dv_u V (A 1) 6 0 p) (A 0) 14 0 0 (A 0) 13 z = dv_u V (A 1) 6 0 p (A 0) 13 z := fun z => u_j (by decide)
      have e' : ∀ z, dv_u (dv_u W a 2 72 p) a 0 0 0 a 1 z = dv_u W a 2 72 p a 1 z := fun z => u_j (by decide)
      refine ⟨?_, by rw [u_e, u_e]⟩
      rw [e, e, e, e, e, e', e', e', e', e']
      exact hm)
    refine ⟨_, _, V (A 1) 6 0, ?_, ?_, R2⟩
    · have q : f_X11_force_23 V (A 0) p = (dv_u (dv_u V (A 1) 6 0 p) (A 0) 14 0 0, V (A 1) 6 0) := by
        unfold f_X11_force_23
        rw [bq, g0, bq, bq, bq, bq]
      unfold f_X11_force
      by_cases e1 : p = -1
      · rw [if_pos e1, q]
      · have hp0 : 0 ≤ p := by omega
        have hn : V (A 1) 1 p ≠ -1 := by
          have := g1 p.toNat (by omega)
          have hc : ((p.toNat : Nat) : Int) = p := by omega
          rw [hc] at this
          rw [show A 1 = A (1 + 0) from rfl, this]
          exact hA.2 _ (by omega)
        have hlo : f_X8_lawOf V (A 1) p = (V (A 1) 1 p, ()) := by rw [c_lawOf, if_pos (by omega)]
        rw [if_neg e1, bq, g0, dv_bn2 hlo, if_neg hn, q]
    · unfold f_X12_force
      rw [dv_bn2 q_isLaw, if_pos e, if_pos (by decide), bq, bq, dv_bn2 an_gm, l3]
  · obtain ⟨V2, W2, r1, r2, r3⟩ := RR_bad (k := -2) h (Or.inr (Or.inl ⟨rfl, rfl, rfl⟩))
    refine ⟨V2, W2, -2, ?_, ?_, r3⟩
    · unfold f_X11_force
      have hlo : f_X8_lawOf V (A 1) p = (-1, ()) := by rw [c_lawOf, if_neg (by omega)]
      rw [if_neg (by omega), bq, g0, dv_bn2 hlo, if_pos rfl, dv_bn2 r1]
    · unfold f_X12_force
      rw [dv_bn2 q_isLaw, if_neg e, if_neg (fun q => q rfl), dv_bn2 r2]
theorem c_onGrid : f_X11_onGrid V x = (if 0 ≤ x ∧ x ≤ 11 then 1 else 0, ()) := by
  unfold f_X11_onGrid
  by_cases e : x < 0
  · rw [if_pos e, if_neg (by omega)]
  · rw [if_neg e]
    by_cases e1 : 12 ≤ x
    · rw [if_pos e1, if_neg (by omega)]
    · rw [if_neg e1, if_pos (by omega)]
theorem L_forget (h : RR A a V W) : ∃ V' W' u, f_X11_forget V (A 0) = (V', u) ∧ f_X12_forget W a = (W', u) ∧ RR A a V' W' := by
  have hA := h.1
  obtain ⟨g0, -⟩ := RR_G h
  obtain ⟨-, -, ⟨-, k2, k3⟩, -⟩ := id h
  have s1 : V (A 1) 7 0 = W a 2 70 := by have := k2.1; rw [Int.zero_add] at this; exact this
  have n1 : ∀ {i : Nat}, i < 38 → i ≠ 1 → ∀ m z, dv_u V (A 1) 7 0 0 (A i) m z = V (A i) m z := fun hi hn m z => u_b (inj_n hA hi (by decide) hn)
  refine ⟨dv_u V (A 1) 7 0 0, dv_u W a 2 70 0, V (A 1) 7 0, ?_, ?_, RR_st h (cf_u hA (by decide) rfl) (wf_u rfl) (fun z hz => u_i (by omega)) ⟨?_, ?_, fun z z0 z1 => ?_⟩ (laR_c (by decide) k3 (fun i m z hi hm hd => ?_) (fun z hz => u_i (by omega)))⟩
  · unfold f_X11_forget
    rw [bq, g0, bq, bq, bq]
  · unfold f_X12_forget
    rw [bq, bq, s1]
  · show dv_u V (A 1) 7 0 0 (A 1) 7 0 = dv_u W a 2 70 0 a 2 70
    rw [u_e, u_e]
  · rw [u_e]; decide
  · rw [u_e] at z1; omega
  · by_cases e : i = 1
    · subst e
      have : m ≠ 7 := by intro q; subst q; cases hd
      exact u_j this
    · exact n1 hi e m z
theorem L_seen (h : RR A a V W) : ∃ V' W' u, f_X11_seen V (A 0) x y s = (V', u) ∧ f_X12_seen W a x y s = (W', u) ∧ RR A a V' W' := by
  have hA := h.1
  obtain ⟨g0, -⟩ := RR_G h
  obtain ⟨-, -, ⟨-, k2, k3⟩, -⟩ := id h
  have s1 : V (A 1) 7 0 = W a 2 70 := by have := k2.1; rw [Int.zero_add] at this; exact this
  have s2 : 0 ≤ V (A 1) 7 0 ∧ V (A 1) 7 0 ≤ 6 := k2.2.1
  have s3 := k2.2.2
  by_cases e : (0 ≤ x ∧ x ≤ 11) ∧ (0 ≤ y ∧ y ≤ 11) ∧ 1 ≤ s ∧ s ≤ 12
  case neg =>
    obtain ⟨V2, W2, r1, r2, r3⟩ := RR_bad (k := -1) h (Or.inl ⟨rfl, rfl, rfl⟩)
    refine ⟨V2, W2, -1, ?_, ?_, r3⟩
    · have q : f_X11_seen_25 V (A 0) = (V2, -1) := by unfold f_X11_seen_25; rw [dv_bn2 r1]
      unfold f_X11_seen
      rw [dv_bn2 c_onGrid]
      by_cases hx : 0 ≤ x ∧ x ≤ 11
      · rw [if_pos hx, if_neg (by decide), dv_bn2 c_onGrid]
        by_cases hy : 0 ≤ y ∧ y ≤ 11
        · rw [if_pos hy, if_neg (by decide)]
          by_cases hs : s < 1
          · rw [if_pos hs, q]
          · rw [if_neg hs, if_neg (by omega), q]
        · rw [if_neg hy, if_pos rfl, q]
      · rw [if_neg hx, if_pos rfl, q]
    · have q : f_X12_seen_21 W a = (W2, -1) := by unfold f_X12_seen_21; rw [dv_bn2 r2]
      unfold f_X12_seen
      rw [dv_bn2 q_isAlong]
      by_cases hx : 0 ≤ x ∧ x ≤ 11
      · rw [if_pos hx, if_neg (by decide), dv_bn2 q_isAlong]
        by_cases hy : 0 ≤ y ∧ y ≤ 11
        · rw [if_pos hy, if_neg (by decide), dv_bn2 q_isSide, if_neg (fun w => e ⟨hx, hy, w⟩), if_neg (fun w => w rfl), q]
        · rw [if_neg hy, if_pos rfl, q]
      · rw [if_neg hx, if_pos rfl, q]
  case pos =>
    obtain ⟨hx, hy, hs⟩ := e
    by_cases e6 : V (A 1) 7 0 < 6
    case neg =>
      obtain ⟨V2, W2, r1, r2, r3⟩ := RR_bad (k := -5) h (Or.inr (Or.inr (Or.inr (Or.inl ⟨rfl, rfl, rfl⟩))))
      refine ⟨V2, W2, -5, ?_, ?_, r3⟩
      · unfold f_X11_seen
        rw [dv_bn2 c_onGrid, if_pos hx, if_neg (by decide), dv_bn2 c_onGrid, if_pos hy, if_neg (by decide), if_neg (by omega), if_pos (by omega), bq, g0, bq, if_neg e6, dv_bn2 r1]
      · unfold f_X12_seen
        rw [dv_bn2 q_isAlong, if_pos hx, if_neg (by decide), dv_bn2 q_isAlong, if_pos hy, if_neg (by decide), dv_bn2 q_isSide, if_pos hs, if_pos (by decide), bq, bq, bq, bq, if_neg (by omega), dv_bn2 r2]
    case pos =>
      have hu : ∀ (U : dV) (j : Nat) (i v : Int), dv_u U (A 1) j i v (A 0) 0 0 = U (A 0) 0 0 := fun U j i v => u_b (inj_n hA (by decide) (by decide) (by decide))
      have h7 : ∀ (U : dV) (j : Nat) (i v : Int), j ≠ 7 → dv_u U (A 1) j i v (A 1) 7 0 = U (A 1) 7 0 := fun U j i v hj => u_j (Ne.symm hj)
      have eV : ∀ Z, f_X11_answer (dv_u (dv_u (dv_u (dv_u V (A 1) 2 (V (A 1) 7 0) x) (A 1) 3 (V (A 1) 7 0) y) (A 1) 4 (V (A 1) 7 0) s) (A 1) 7 0 (V (A 1) 7 0 + 1)) (A 0) (V (A 1) 7 0 + 1) = Z → f_X11_seen V (A 0) x y s = Z := by
        intro Z hZ
        unfold f_X11_seen
        rw [dv_bn2 c_onGrid, if_pos hx, if_neg (by decide), dv_bn2 c_onGrid, if_pos hy, if_neg (by decide), if_neg (by omega), if_pos (by omega), bq, g0, bq, if_pos e6]
        simp only [bq, g0, hu]
        rw [h7 _ _ _ _ (by decide), h7 _ _ _ _ (by decide), h7 _ _ _ _ (by decide), h7 _ _ _ _ (by decide), h7 _ _ _ _ (by decide), h7 _ _ _ _ (by decide), u_e, bq2, hZ]
      have eW : ∀ Z, f_X12_good (dv_u (dv_u (dv_u (dv_u W a 2 (47 + 3 * W a 2 70) x) a 2 (47 + 3 * W a 2 70 + 1) y) a 2 (47 + 3 * W a 2 70 + 2) s) a 2 70 (W a 2 70 + 1)) a (W a 2 70 + 1) = Z → f_X12_seen W a x y s = Z := by
        intro Z hZ
        unfold f_X12_seen
        rw [dv_bn2 q_isAlong, if_pos hx, if_neg (by decide), dv_bn2 q_isAlong, if_pos hy, if_neg (by decide), dv_bn2 q_isSide, if_pos hs, if_pos (by decide), bq, bq, bq, bq, if_pos (by omega), bq, bq, bq, bq, bq, bq, u_i (by omega), u_i (by omega), u_i (by omega), bq, bq, bq, u_e, bq2, hZ]
      have v7 : dv_u (dv_u (dv_u (dv_u V (A 1) 2 (V (A 1) 7 0) x) (A 1) 3 (V (A 1) 7 0) y) (A 1) 4 (V (A 1) 7 0) s) (A 1) 7 0 (V (A 1) 7 0 + 1) (A 1) 7 0 = V (A 1) 7 0 + 1 := u_e
      have vz : ∀ z, dv_u (dv_u (dv_u (dv_u V (A 1) 2 (V (A 1) 7 0) x) (A 1) 3 (V (A 1) 7 0) y) (A 1) 4 (V (A 1) 7 0) s) (A 1) 7 0 (V (A 1) 7 0 + 1) (A 1) 2 z = (if z = V (A 1) 7 0 then x else V (A 1) 2 z) ∧ dv_u (dv_u (dv_u (dv_u V (A 1) 2 (V (A 1) 7 0) x) (A 1) 3 (V (A 1) 7 0) y) (A 1) 4 (V (A 1) 7 0) s) (A 1) 7 0 (V (A 1) 7 0 + 1) (A 1) 3 z = (if z = V (A 1) 7 0 then y else V (A 1) 3 z) ∧ dv_u (dv_u (dv_u (dv_u V (A 1) 2 (V (A 1) 7 0) x) (A 1) 3 (V (A 1) 7 0) y) (A 1) 4 (V (A 1) 7 0) s) (A 1) 7 0 (V (A 1) 7 0 + 1) (A 1) 4 z = (if z = V (A 1) 7 0 then s else V (A 1) 4 z) := fun z => ⟨by rw [u_j (by decide), u_j (by decide), u_j (by decide), u_if], by rw [u_j (by decide), u_j (by decide), u_if, u_j (by decide)], by rw [u_j (by decide), u_if, u_j (by decide), u_j (by decide)]⟩
      have F : cf A (fun i m => i == 1 && (m == 2 || m == 3 || m == 4 || m == 7)) V (dv_u (dv_u (dv_u (dv_u V (A 1) 2 (V (A 1) 7 0) x) (A 1) 3 (V (A 1) 7 0) y) (A 1) 4 (V (A 1) 7 0) s) (A 1) 7 0 (V (A 1) 7 0 + 1)) := cf_t (cf_t (cf_t (cf_u hA (by decide) rfl) (cf_u hA (by decide) rfl)) (cf_u hA (by decide) rfl)) (cf_u hA (by decide) rfl)
      have w2 : ∀ z, dv_u (dv_u (dv_u (dv_u W a 2 (47 + 3 * W a 2 70) x) a 2 (47 + 3 * W a 2 70 + 1) y) a 2 (47 + 3 * W a 2 70 + 2) s) a 2 70 (W a 2 70 + 1) a 2 z = if z = 70 then W a 2 70 + 1 else if z = 47 + 3 * W a 2 70 + 2 then s else if z = 47 + 3 * W a 2 70 + 1 then y else if z = 47 + 3 * W a 2 70 then x else W a 2 z := fun z => by rw [u_if, u_if, u_if, u_if]
      have GW : wf a (fun m => m == 2) W (dv_u (dv_u (dv_u (dv_u W a 2 (47 + 3 * W a 2 70) x) a 2 (47 + 3 * W a 2 70 + 1) y) a 2 (47 + 3 * W a 2 70 + 2) s) a 2 70 (W a 2 70 + 1)) := wf_t (wf_t (wf_t (wf_u rfl) (wf_u rfl)) (wf_u rfl)) (wf_u rfl)
      generalize dv_u (dv_u (dv_u (dv_u V (A 1) 2 (V (A 1) 7 0) x) (A 1) 3 (V (A 1) 7 0) y) (A 1) 4 (V (A 1) 7 0) s) (A 1) 7 0 (V (A 1) 7 0 + 1) = V1 at eV v7 vz F
      generalize dv_u (dv_u (dv_u (dv_u W a 2 (47 + 3 * W a 2 70) x) a 2 (47 + 3 * W a 2 70 + 1) y) a 2 (47 + 3 * W a 2 70 + 2) s) a 2 70 (W a 2 70 + 1) = W1 at eW w2 GW
      have wn : ∀ z, z ≠ 70 → ¬ (47 + 3 * W a 2 70 ≤ z ∧ z < 50 + 3 * W a 2 70) → W1 a 2 z = W a 2 z := fun z n1 n2 => by rw [w2, if_neg n1, if_neg (by omega), if_neg (by omega), if_neg (by omega)]
      have R : RR A a V1 W1 := by
        refine RR_st h (cf_m F (fun i m hL => ?_)) GW (fun z hz => wn z (by omega) (by omega)) ⟨?_, ?_, fun z z0 z1 => ?_⟩ (laR_c (by decide) k3 (cf_ag F rfl) (fun z hz => by rw [Int.zero_add]; exact wn z (by omega) (by omega)))
        · by_cases e1 : i = 1
          · subst e1
            have hm : ¬ 2 ≤ m := by intro q; simp [q] at hL
            simp; omega
          · simp [e1]
        · rw [v7, Int.zero_add, w2, if_pos rfl, s1]
        · rw [v7]; omega
        · rw [v7] at z1
          obtain ⟨q2, q3, q4⟩ := vz z
          rw [q2, q3, q4, Int.zero_add, Int.zero_add, Int.zero_add, w2, w2, w2]
          by_cases e1 : z = V (A 1) 7 0
          · rw [if_pos e1, if_pos e1, if_pos e1, if_neg (by omega), if_neg (by omega), if_neg (by omega), if_pos (by omega), if_neg (by omega), if_neg (by omega), if_pos (by omega), if_neg (by omega), if_pos (by omega)]
            exact ⟨rfl, rfl, rfl⟩
          · rw [if_neg e1, if_neg e1, if_neg e1, if_neg (by omega), if_neg (by omega), if_neg (by omega), if_neg (by omega), if_neg (by omega), if_neg (by omega), if_neg (by omega), if_neg (by omega), if_neg (by omega), if_neg (by omega), if_neg (by omega), if_neg (by omega)]
            have := s3 z z0 (by show z < V (A 1) 7 0; omega)
            rw [Int.zero_add, Int.zero_add, Int.zero_add] at this
            exact this
      obtain ⟨V2, W2, r1, r2, r3⟩ := RR_good (t := V (A 1) 7 0 + 1) R (by omega)
      exact ⟨V2, W2, _, eV _ r1, eW _ (by rw [← s1]; exact r2), r3⟩
end QSR
section QSS
variable {V V' V0 V1 V2 W W' W0 W1 W2 : dV} {a b b' c z t k s p x y n L i j u o N : Int} {A : Nat → Int} {K K' : Int → Int}
theorem txR_k {x x' t : Int} (h : txR x V K b t) (h0 : ∀ z, z < V x 2 0 → V' x' 0 z = V x 0 z) (h1 : ∀ z, 0 ≤ z → z < V x 3 0 * 8 → V' x' 1 z = V x 1 z) (h2 : V' x' 2 0 = V x 2 0) (h3 : V' x' 3 0 = V x 3 0) (e : K' (b' + (73 + t)) = K (b + (73 + t))) (hc : ∀ i, 0 ≤ i → i < 400 → K' (b' + (80 + 400 * t + i)) = K (b + (80 + 400 * t + i)) ∧ K' (b' + (2880 + 400 * t + i)) = K (b + (2880 + 400 * t + i))) : txR x' V' K' b' t := by
  obtain ⟨k1, k2, k3⟩ := h
  refine ⟨by rw [h2]; exact k1, by rw [e]; exact k2, ?_⟩
  rw [h2, h3, e]
  have g : cg (K (b + (73 + t))) (tcd K b t) (tvl K b t) (tcd K' b' t) (tvl K' b' t) := by
    refine ⟨fun z z0 z1 => ?_, fun z z0 z1 => ?_⟩
    · unfold tcd
      rw [e]
      by_cases q : z < K (b + (73 + t))
      · rw [if_pos q, if_pos q]; exact (hc z z0 (by omega)).1
      · rw [if_neg q, if_neg q]
    · unfold tvl; exact (hc z z0 (by omega)).2
  exact cg_tx g (tx_ok_c h0 h1 (Int.le_refl _) k3)
/-- the reference lays a text down -/
theorem m_lays (hN : 0 ≤ W a 18 0 ∧ W a 18 0 ≤ 400) (ht : 0 ≤ t ∧ t ≤ 6) : ∃ W', f_X12_lays W a t = (W', 0) ∧ (∀ b m z, ¬ (b = a ∧ m = 2) → W' b m z = W b m z) ∧ W' a 2 (73 + t) = W a 18 0 ∧ (∀ i, 0 ≤ i → i < W a 18 0 → W' a 2 (80 + 400 * t + i) = W a 15 i ∧ W' a 2 (2880 + 400 * t + i) = W a 16 i) ∧ ∀ z, z ≠ 73 + t → ¬ (80 + 400 * t ≤ z ∧ z < 480 + 400 * t) → ¬ (2880 + 400 * t ≤ z ∧ z < 3280 + 400 * t) → W' a 2 z = W a 2 z := by
  unfold f_X12_lays
  rw [bq, bq, bq]
  refine dv_inv (P := fun s => ∃ (U : dV) (j : Int), s = (U, a, t, j) ∧ 0 ≤ j ∧ j ≤ W a 18 0 ∧ (∀ b m z, ¬ (b = a ∧ m = 2) → U b m z = W b m z) ∧ U a 2 (73 + t) = W a 18 0 ∧ (∀ i, 0 ≤ i → i < j → U a 2 (80 + 400 * t + i) = W a 15 i ∧ U a 2 (2880 + 400 * t + i) = W a 16 i) ∧ ∀ z, z ≠ 73 + t → ¬ (80 + 400 * t ≤ z ∧ z < 480 + 400 * t) → ¬ (2880 + 400 * t ≤ z ∧ z < 3280 + 400 * t) → U a 2 z = W a 2 z) (Q := fun q => ∃ W' : dV, q = (W', 0) ∧ (∀ b m z, ¬ (b = a ∧ m = 2) → W' b m z = W b m z) ∧ W' a 2 (73 + t) = W a 18 0 ∧ (∀ i, 0 ≤ i → i < W a 18 0 → W' a 2 (80 + 400 * t + i) = W a 15 i ∧ W' a 2 (2880 + 400 * t + i) = W a 16 i) ∧ ∀ z, z ≠ 73 + t → ¬ (80 + 400 * t ≤ z ∧ z < 480 + 400 * t) → ¬ (2880 + 400 * t ≤ z ∧ z < 3280 + 400 * t) → W' a 2 z = W a 2 z) (m := fun s => (W a 18 0 - s.2.2.2).toNat) ?_ _ ⟨_, 0, rfl, by omega, hN.1, fun b m z hb => ?_, u_e, fun i i0 i1 => absurd i1 (by omega), fun z z1 _ _ => u_i z1⟩
  · rintro q ⟨U, j, rfl, j0, j1, hf, h73, hi, hz⟩
    have u18 : U a 18 0 = W a 18 0 := hf a 18 0 (fun q => absurd q.2 (by decide))
    have u15 : ∀ z, U a 15 z = W a 15 z := fun z => hf a 15 z (fun q => absurd q.2 (by decide))
    have u16 : ∀ z, U a 16 z = W a 16 z := fun z => hf a 16 z (fun q => absurd q.2 (by decide))
    rw [f_X12_lays_15e]
    unfold f_X12_lays_15c
    rw [bq, u18]
    by_cases e : W a 18 0 ≤ j
    · rw [if_pos e]
      exact Or.inr ⟨_, rfl, U, rfl, hf, h73, fun i i0 i1 => hi i i0 (by omega), hz⟩
    · rw [if_neg e, bq, bq, bq, bq, bq, bq, bq, bq, bq, bq, bq, u_j (show (16 : Nat) ≠ 2 by decide), u15, u16]
      have g2 : ∀ z v w, dv_u (dv_u U a 2 (80 + 400 * t + j) v) a 2 (2880 + 400 * t + j) w a 2 z = if z = 2880 + 400 * t + j then w else if z = 80 + 400 * t + j then v else U a 2 z := fun z v w => by rw [u_if, u_if]
      refine Or.inl ⟨_, rfl, ⟨_, j + 1, rfl, by omega, by omega, fun b m z hb => ?_, ?_, fun i i0 i1 => ?_, fun z z1 z2 z3 => ?_⟩, by dsimp only; omega⟩
      · by_cases q : b = a
        · have q2 : m ≠ 2 := fun w => hb ⟨q, w⟩
          rw [u_j q2, u_j q2]; exact hf b m z hb
        · rw [u_b q, u_b q]; exact hf b m z hb
      · rw [g2, if_neg (by omega), if_neg (by omega), h73]
      · rw [g2, g2]
        by_cases q : i = j
        · rw [q, if_neg (by omega), if_pos rfl, if_pos rfl]; exact ⟨rfl, rfl⟩
        · rw [if_neg (by omega), if_neg (by omega), if_neg (by omega), if_neg (by omega)]; exact hi i i0 (by omega)
      · rw [g2, if_neg (by omega), if_neg (by omega)]; exact hz z z1 z2 z3
  · by_cases q : b = a
    · exact u_j (fun w => hb ⟨q, w⟩)
    · exact u_b q
/-- a text was read, and the tape is empty -/
theorem RR_read {J : Nat} (h : RR A a V W) (hJ : J = 11 ∨ (20 ≤ J ∧ J < 26 ∧ V (A 1) 5 0 ≤ (J : Int) - 20)) (f : rw_f (A 10) (A J) V V1) (g : rm_f a W W1) (h13 : W1 a 13 0 = 0) (h14 : W1 a 14 0 = y) (hpl : ∀ z, V1 (A 10) 1 z = W1 a 17 z) : RR A a (dv_u (dv_u V1 (A 0) 15 0 y) (A 9) 1 0 0) W1 := by
  have hA := h.1
  obtain ⟨-, h2, ⟨k1, k2, k3⟩, h4, h5, h6, h7, h8, h9, h10⟩ := id h
  have J38 : J < 38 := by omega
  have F : cf A (fun i m => i == 10 || (i == J && m ≤ 3) || (i == 0 && m == 15) || (i == 9 && m == 1)) V (dv_u (dv_u V1 (A 0) 15 0 y) (A 9) 1 0 0) := by
    refine cf_t (cf_t (fun i m z hi hm hL => ?_) (cf_u hA (by decide) (by simp))) (cf_u hA (by decide) (by simp))
    simp only [Bool.or_eq_false_iff, Bool.and_eq_false_iff, beq_eq_false_iff_ne, decide_eq_false_iff_not, ne_eq] at hL
    refine f (A i) m z (fun q => ?_) (fun q => ?_)
    · have := hA.1 i 10 hi (by decide) q.1; omega
    · have := hA.1 i J hi J38 q.1; omega
  have GW : wf a (fun m => (8 ≤ m && m ≤ 10) || (13 ≤ m && m ≤ 21)) W W1 := fun m z hm => by
    simp only [Bool.or_eq_false_iff, Bool.and_eq_false_iff, decide_eq_false_iff_not] at hm
    exact g a m z (fun q => by have := q.2; omega)
  have ap : ∀ D : Nat → Nat → Bool, (∀ i m, D i m = true → ¬ (i = 10 ∨ (i = J ∧ m ≤ 3) ∨ (i = 0 ∧ m = 15) ∨ (i = 9 ∧ m = 1))) → ag A D V (dv_u (dv_u V1 (A 0) 15 0 y) (A 9) 1 0 0) := fun D hD i m z hi hm hd => F i m z hi hm (by
    have := hD i m hd
    simp only [Bool.or_eq_false_iff, Bool.and_eq_false_iff, beq_eq_false_iff_ne, decide_eq_false_iff_not, ne_eq]
    omega)
  have w2 : ∀ z, W1 a 2 z = W a 2 z := fun z => GW 2 z rfl
  refine ⟨hA, G_c h2 (ap _ (fun i m hd => ?_)), ⟨flR_c k1 (fun j c hj hj6 => ((ap (fun i _ => i == 4) (fun i m hd => ?_)) 4 j c (by decide) (by omega) rfl).symm) (fun z _ => w2 _), seR_c k2 ((ap (fun i _ => i == 1) (fun i m hd => ?_)) 1 7 0 (by decide) (by decide) rfl) (fun z _ _ => ⟨(ap (fun i _ => i == 1) (fun i m hd => ?_)) 1 2 z (by decide) (by decide) rfl, (ap (fun i _ => i == 1) (fun i m hd => ?_)) 1 3 z (by decide) (by decide) rfl, (ap (fun i _ => i == 1) (fun i m hd => ?_)) 1 4 z (by decide) (by decide) rfl⟩) (fun z _ => w2 _), ?_⟩, imR_c h4 (ap _ (fun i m hd => ?_)) (fun z => GW 3 z rfl) (fun z => GW 4 z rfl), ⟨by rw [u_e, h13], by rw [h13]; decide, fun z z0 z1 => absurd z1 (by rw [h13]; omega)⟩, psR_c h6 (ap _ (fun i m hd => ?_)) (fun z => GW 31 z rfl) (GW 33 0 rfl), ppR_c h7 (ap _ (fun i m hd => ?_)) (fun z => GW 54 z rfl) (GW 55 0 rfl), miR_c h8 (ap _ (fun i m hd => ?_)) (GW 0 0 rfl) (fun z => GW 1 z rfl), ⟨?_, ?_, ?_⟩, ?_, fun z z0 z1 => ?_, fun k k8 k23 => ?_⟩
  · unfold G_D at hd; simp at hd; omega
  · simp at hd; omega
  · simp at hd; omega
  · simp at hd; omega
  · simp at hd; omega
  · simp at hd; omega
  · obtain ⟨l1, l2, l3, l4, l5⟩ := k3
    have e5 := (ap (fun i _ => i == 1) (fun i m hd => by simp at hd; omega)) 1 5 0 (by decide) (by decide) rfl
    have e6 := (ap (fun i _ => i == 1) (fun i m hd => by simp at hd; omega)) 1 6 0 (by decide) (by decide) rfl
    have l2' : 0 ≤ V (A 1) 5 0 ∧ V (A 1) 5 0 ≤ 6 := l2
    refine ⟨(e5.trans l1).trans (w2 _).symm, by rw [show A (1 + 0) = A 1 from rfl, e5]; exact l2', (e6.trans l3).trans (w2 _).symm, ?_, fun t ht => ?_⟩
    · rw [show A (1 + 0) = A 1 from rfl, e5, e6]; exact l4
    · rw [show A (1 + 0) = A 1 from rfl, e5] at ht
      have et : ∀ (m : Nat) (z : Int), m ≤ 3 → dv_u (dv_u V1 (A 0) 15 0 y) (A 9) 1 0 0 (A (20 + 6 * 0 + t)) m z = V (A (20 + 6 * 0 + t)) m z := fun m z hm => (ap (fun i _ => i == 20 + 6 * 0 + t) (fun i m hd => by simp at hd; omega)) _ m z (by omega) (by omega) (by simp)
      exact txR_k (l5 t ht) (fun z _ => et 0 z (by decide)) (fun z _ _ => et 1 z (by decide)) (et 2 0 (by decide)) (et 3 0 (by decide)) (w2 _) (fun i _ _ => ⟨w2 _, w2 _⟩)
  · unfold im_D st_D la_D at hd; simp at hd; omega
  · unfold ps_D at hd; simp at hd; omega
  · unfold pp_D at hd; simp at hd; omega
  · unfold mi_D at hd; simp at hd; omega
  · rw [u_b (inj_n hA (by decide) (by decide) (by decide)), u_e, h14]
  · rw [(ap (fun i m => i == 0 && m == 16) (fun i m hd => by simp at hd; omega)) 0 16 0 (by decide) (by decide) rfl, GW 6 0 rfl]; exact h9.2.1
  · rw [(ap (fun i m => i == 0 && m == 17) (fun i m hd => by simp at hd; omega)) 0 17 0 (by decide) (by decide) rfl, GW 47 0 rfl]; exact h9.2.2
  · intro z
    rw [u_b (inj_n hA (by decide) (by decide) (by decide)), u_b (inj_n hA (by decide) (by decide) (by decide))]; exact hpl z
  · rw [GW 7 z rfl]; exact h10.2.1 z z0 z1
  · rw [(ap (fun i m => i == 14) (fun i m hd => by simp at hd; omega)) 14 1 k (by decide) (by decide) rfl]; exact h10.2.2 k k8 k23
end QSS
section QST
variable {V V' V0 V1 V2 W W' W0 W1 W2 : dV} {a b b' c z t k s p x y n L i j u o N : Int} {A : Nat → Int} {K K' : Int → Int}
theorem L_law (h : RR A a V W) : ∃ V' W' u, f_X11_law V (A 0) = (V', u) ∧ f_X12_law W a = (W', u) ∧ RR A a V' W' := by
  have hA := h.1
  obtain ⟨g0, g1, g10, g5, -⟩ := RR_G h
  obtain ⟨-, ⟨⟨-, -, -, -, -, -, gr, -⟩, -, -, gk⟩, ⟨-, -, k3⟩, -, ⟨t1, t2, t3⟩, -, -, -, -, r1, r2, r3⟩ := id h
  have l1 : V (A 1) 5 0 = W a 2 71 := by have := k3.1; rw [Int.zero_add] at this; exact this
  have l2 : 0 ≤ V (A 1) 5 0 ∧ V (A 1) 5 0 ≤ 6 := k3.2.1
  by_cases e6 : V (A 1) 5 0 < 6
  case neg =>
    have R : RR A a (dv_u V (A 9) 1 0 0) (dv_u W a 13 0 0) := RR_tp h (cf_u hA (by decide) rfl) (wf_u rfl) ⟨by rw [u_e, u_e], by rw [u_e]; decide, fun z z0 z1 => absurd z1 (by rw [u_e]; omega)⟩
    obtain ⟨V2, W2, r1, r2, r3⟩ := RR_bad (k := -5) R (Or.inr (Or.inr (Or.inr (Or.inl ⟨rfl, rfl, rfl⟩))))
    refine ⟨V2, W2, -5, ?_, ?_, r3⟩
    · unfold f_X11_law
      rw [bq, g0, bq, if_neg e6, bq, g5, bq, dv_bn2 r1]
    · unfold f_X12_law
      rw [bq, if_neg (by omega), bq, dv_bn2 r2]
  case pos =>
    obtain ⟨n, hn⟩ : ∃ n : Nat, (n : Int) = V (A 1) 5 0 := ⟨(V (A 1) 5 0).toNat, by omega⟩
    have gx : V (A 1) 1 (V (A 1) 5 0) = A (20 + n) := by
      have := (gk 0 (by decide)).2 n (by omega)
      rw [hn] at this
      exact this
    have hJ : 20 + n < 38 := by omega
    obtain ⟨V1, y, W1, y', e1, e2, f1, f2, f3, f4, f5, f6⟩ := rd_whole (V := V) (W := W) (r := A 10) (x := A (20 + n)) (tp := A 9) (o := 0) (a := a) (inj_n hA hJ (by decide) (by omega)) (inj_n hA (by decide) (by decide) (by decide)) (inj_n hA (by decide) hJ (by omega)) (Or.inl rfl) t1 t2 t3 r2 r1
    have p0 : ∀ m z, V1 (A 0) m z = V (A 0) m z := fun m z => f1 _ m z (fun q => inj_n hA (by decide) (by decide) (by decide) q.1) (fun q => inj_n hA (by decide) hJ (by omega) q.1)
    have p1 : ∀ m z, V1 (A 1) m z = V (A 1) m z := fun m z => f1 _ m z (fun q => inj_n hA (by decide) (by decide) (by decide) q.1) (fun q => inj_n hA (by decide) hJ (by omega) q.1)
    have R := RR_read (J := 20 + n) h (Or.inr ⟨by omega, by omega, by omega⟩) f1 f2 f3 f4 f5
    have c5 : dv_u V1 (A 0) 15 0 y (A 0) 5 0 = A 9 := by rw [u_j (by decide), p0, g5]
    have c0 : dv_u (dv_u V1 (A 0) 15 0 y) (A 9) 1 0 0 (A 0) 0 0 = A 1 := by rw [u_b (inj_n hA (by decide) (by decide) (by decide)), u_j (by decide), p0, g0]
    have c15 : dv_u (dv_u V1 (A 0) 15 0 y) (A 9) 1 0 0 (A 0) 15 0 = y := by rw [u_b (inj_n hA (by decide) (by decide) (by decide)), u_e]
    have c15x : ∀ z, dv_u (dv_u V1 (A 0) 15 0 y) (A 9) 1 0 0 (A 1) 5 z = V (A 1) 5 z := fun z => by rw [u_b (inj_n hA (by decide) (by decide) (by decide)), u_b (inj_n hA (by decide) (by decide) (by decide)), p1]
    have cx : ∀ m z, dv_u (dv_u V1 (A 0) 15 0 y) (A 9) 1 0 0 (A (20 + n)) m z = V1 (A (20 + n)) m z := fun m z => by rw [u_b (inj_n hA hJ (by decide) (by omega)), u_b (inj_n hA hJ (by decide) (by omega))]
    have eV : ∀ Z, (if y = -1 then (dv_b (V (A 1) 5 0 + 1) fun x19 => dv_b (dv_u (dv_u (dv_u V1 (A 0) 15 0 y) (A 9) 1 0 0) (A 1) 5 0 x19) fun V91 => dv_b (V91 (A 0) 0 0) fun zz12 => dv_b (V91 zz12 5 0) fun zz13 => dv_b (zz13 - 1) fun x24 => dv_b2 (f_X11_answer V91 (A 0) x24) fun V104 x25 => (V104, x25)) else dv_b2 (f_X11_answer (dv_u (dv_u V1 (A 0) 15 0 y) (A 9) 1 0 0) (A 0) (-6)) fun V77 x30 => (V77, x30)) = Z → f_X11_law V (A 0) = Z := by
      intro Z hZ
      unfold f_X11_law
      rw [bq, g0, bq, if_pos e6, bq, gr, bq, g5, bq, bq, bq, bq, gx, dv_bn2 e1, bq, bq, c5, bq, bq, c15, c0, bq, bq, c15x]
      exact hZ
    by_cases ey : y = -1
    case neg =>
      rcases f6 with ⟨q, -⟩ | ⟨-, ey'⟩
      · exact absurd q ey
      obtain ⟨V2, W2, r1, r2, r3⟩ := RR_bad (k := -6) R (Or.inr (Or.inr (Or.inr (Or.inr ⟨rfl, rfl, rfl⟩))))
      refine ⟨V2, W2, -6, eV _ ?_, ?_, r3⟩
      · rw [if_neg ey, dv_bn2 r1]
      · unfold f_X12_law
        rw [bq, if_pos (by omega), dv_bn2 e2, if_neg (fun q => q ey'), dv_bn2 r2]
    case pos =>
      have f7 := f6.resolve_right (fun q => q.1 ey)
      obtain ⟨-, ey', hs0, hN, hE, hT⟩ := f7
      have w2 : ∀ z, W1 a 2 z = W a 2 z := fun z => f2 a 2 z (fun q => absurd q.2 (by omega))
      have w71 : W1 a 2 71 = V (A 1) 5 0 := by rw [w2, l1]
      obtain ⟨W2, m1, m2, m3, m4, m5⟩ := m_lays (W := W1) (a := a) (t := V (A 1) 5 0) hN (by omega)
      have m71 : W2 a 2 71 = V (A 1) 5 0 := by rw [m5 71 (by omega) (by omega) (by omega), w71]
      -- the new state
      have R2 : RR A a (dv_u (dv_u (dv_u V1 (A 0) 15 0 y) (A 9) 1 0 0) (A 1) 5 0 (V (A 1) 5 0 + 1)) (dv_u W2 a 2 71 (V (A 1) 5 0 + 1)) := by
        obtain ⟨-, -, ⟨-, K2, K3⟩, -⟩ := id R
        have kz : ∀ z, z < 73 → z ≠ 71 → dv_u W2 a 2 71 (V (A 1) 5 0 + 1) a 2 z = W1 a 2 z := fun z z1 z2 => by rw [u_i z2, m5 z (by omega) (by omega) (by omega)]
        refine RR_st R (cf_u hA (by decide) rfl) (wf_t (wf_b m2 rfl) (wf_u rfl)) (fun z hz => kz z (by omega) (by omega)) (seR_c K2 (u_j (by decide)) (fun z _ _ => ⟨u_j (by decide), u_j (by decide), u_j (by decide)⟩) (fun z hz => by rw [Int.zero_add]; exact kz z (by omega) (by omega))) ?_
        obtain ⟨q1, q2, q3, q4, q5⟩ := K3
        have q1 : dv_u (dv_u V1 (A 0) 15 0 y) (A 9) 1 0 0 (A 1) 5 0 = W1 a 2 71 := by have := q1; rw [Int.zero_add] at this; exact this
        have q3 : dv_u (dv_u V1 (A 0) 15 0 y) (A 9) 1 0 0 (A 1) 6 0 = W1 a 2 72 := by have := q3; rw [Int.zero_add] at this; exact this
        have q4 : -1 ≤ dv_u (dv_u V1 (A 0) 15 0 y) (A 9) 1 0 0 (A 1) 6 0 ∧ dv_u (dv_u V1 (A 0) 15 0 y) (A 9) 1 0 0 (A 1) 6 0 < dv_u (dv_u V1 (A 0) 15 0 y) (A 9) 1 0 0 (A 1) 5 0 := q4
        refine ⟨?_, ?_, ?_, ?_, fun t ht => ?_⟩
        · show dv_u (dv_u (dv_u V1 (A 0) 15 0 y) (A 9) 1 0 0) (A 1) 5 0 (V (A 1) 5 0 + 1) (A 1) 5 0 = dv_u W2 a 2 71 (V (A 1) 5 0 + 1) a 2 71
          rw [u_e, u_e]
        · show 0 ≤ dv_u (dv_u (dv_u V1 (A 0) 15 0 y) (A 9) 1 0 0) (A 1) 5 0 (V (A 1) 5 0 + 1) (A 1) 5 0 ∧ dv_u (dv_u (dv_u V1 (A 0) 15 0 y) (A 9) 1 0 0) (A 1) 5 0 (V (A 1) 5 0 + 1) (A 1) 5 0 ≤ 6
          rw [u_e]; omega
        · show dv_u (dv_u (dv_u V1 (A 0) 15 0 y) (A 9) 1 0 0) (A 1) 5 0 (V (A 1) 5 0 + 1) (A 1) 6 0 = dv_u W2 a 2 71 (V (A 1) 5 0 + 1) a 2 72
          rw [u_j (by decide), q3, kz 72 (by decide) (by decide)]
        · show -1 ≤ dv_u (dv_u (dv_u V1 (A 0) 15 0 y) (A 9) 1 0 0) (A 1) 5 0 (V (A 1) 5 0 + 1) (A 1) 6 0 ∧ dv_u (dv_u (dv_u V1 (A 0) 15 0 y) (A 9) 1 0 0) (A 1) 5 0 (V (A 1) 5 0 + 1) (A 1) 6 0 < dv_u (dv_u (dv_u V1 (A 0) 15 0 y) (A 9) 1 0 0) (A 1) 5 0 (V (A 1) 5 0 + 1) (A 1) 5 0
          rw [u_j (by decide), u_e]
          rw [c15x] at q4
          omega
        · have ht : (t : Int) < dv_u (dv_u (dv_u V1 (A 0) 15 0 y) (A 9) 1 0 0) (A 1) 5 0 (V (A 1) 5 0 + 1) (A 1) 5 0 := ht
          rw [u_e] at ht
          have vt : ∀ m z, dv_u (dv_u (dv_u V1 (A 0) 15 0 y) (A 9) 1 0 0) (A 1) 5 0 (V (A 1) 5 0 + 1) (A (20 + 6 * 0 + t)) m z = dv_u (dv_u V1 (A 0) 15 0 y) (A 9) 1 0 0 (A (20 + 6 * 0 + t)) m z := fun m z => u_b (inj_n hA (by omega) (by decide) (by omega))
          by_cases et : (t : Int) = V (A 1) 5 0
          · have tn : t = n := by omega
            subst tn
            have k73 : dv_u W2 a 2 71 (V (A 1) 5 0 + 1) a 2 (0 + (73 + (t : Int))) = W1 a 18 0 := by rw [Int.zero_add, u_i (by omega), et, m3]
            have ex : A (20 + 6 * 0 + t) = A (20 + t) := by rw [show 20 + 6 * 0 + t = 20 + t by omega]
            have vx : ∀ m z, dv_u (dv_u (dv_u V1 (A 0) 15 0 y) (A 9) 1 0 0) (A 1) 5 0 (V (A 1) 5 0 + 1) (A (20 + t)) m z = V1 (A (20 + t)) m z := fun m z => by rw [← ex, vt, ex, cx]
            rw [ex]
            refine ⟨by rw [vx]; exact hs0, by rw [k73]; exact hN, ?_⟩
            rw [k73, vx, vx, show dv_u (dv_u (dv_u V1 (A 0) 15 0 y) (A 9) 1 0 0) (A 1) 5 0 (V (A 1) 5 0 + 1) (A (20 + t)) 0 = V1 (A (20 + t)) 0 from funext (vx 0), show dv_u (dv_u (dv_u V1 (A 0) 15 0 y) (A 9) 1 0 0) (A 1) 5 0 (V (A 1) 5 0 + 1) (A (20 + t)) 1 = V1 (A (20 + t)) 1 from funext (vx 1)]
            refine cg_tx ⟨fun z z0 z1 => ?_, fun z z0 z1 => ?_⟩ hT
            · unfold tcd
              rw [k73]
              by_cases q : z < W1 a 18 0
              · rw [if_pos q, Int.zero_add, u_i (by omega), et]; exact (m4 z z0 q).1
              · rw [if_neg q, show z = W1 a 18 0 by omega]
                exact hE.symm
            · unfold tvl
              rw [Int.zero_add, u_i (by omega), et]; exact (m4 z z0 z1).2
          · refine txR_k (q5 t ?_) (fun z _ => vt 0 z) (fun z _ _ => vt 1 z) (vt 2 0) (vt 3 0) ?_ (fun i i0 i1 => ⟨?_, ?_⟩)
            · show (t : Int) < dv_u (dv_u V1 (A 0) 15 0 y) (A 9) 1 0 0 (A 1) 5 0
              rw [c15x]; omega
            · rw [u_i (by omega), m5 _ (by omega) (by omega) (by omega)]
            · rw [u_i (by omega), m5 _ (by omega) (by omega) (by omega)]
            · rw [u_i (by omega), m5 _ (by omega) (by omega) (by omega)]
      obtain ⟨V3, W3, r1, r2, r3⟩ := RR_good (t := V (A 1) 5 0) R2 l2.1
      refine ⟨V3, W3, V (A 1) 5 0, eV _ ?_, ?_, r3⟩
      · rw [if_pos ey, bq, bq, bq, u_b (inj_n hA (by decide) (by decide) (by decide)), c0, bq, u_e, bq, show V (A 1) 5 0 + 1 - 1 = V (A 1) 5 0 by omega, dv_bn2 r1]
      · unfold f_X12_law
        rw [bq, if_pos (by omega), dv_bn2 e2, if_pos (by rw [ey']; decide), bq, w71, dv_bn2 m1, bq, m71, bq, bq, bq, u_e, bq, show V (A 1) 5 0 + 1 - 1 = V (A 1) 5 0 by omega, dv_bn2 r2]
end QST
section QSU
variable {V V' V0 V1 V2 U W W' W0 W1 W2 : dV} {a b b' c z t k s p x y n i u o N B oa ob sp dp fl pa : Int} {A : Nat → Int} {K K' : Int → Int} {φ ψ : Nat → Int → Int} {j ja jb m : Nat}
theorem cp_in (h : dp ≤ z ∧ z < dp + n) : dv_c V oa ja sp ob jb dp n ob jb z = V oa ja (sp + (z - dp)) := by
  unfold dv_c; rw [if_pos ⟨rfl, rfl, h.1, h.2⟩]
theorem cp_out (h : ¬ (dp ≤ z ∧ z < dp + n)) : dv_c V oa ja sp ob jb dp n b m z = V b m z := by
  unfold dv_c; rw [if_neg (fun q => h q.2.2)]
theorem cp_b (h : b ≠ ob) : dv_c V oa ja sp ob jb dp n b m z = V b m z := by
  unfold dv_c; rw [if_neg (fun q => h q.1)]
theorem cp_j (h : m ≠ jb) : dv_c V oa ja sp ob jb dp n b m z = V b m z := by
  unfold dv_c; rw [if_neg (fun q => h q.2.1)]
theorem kg_9 (g : kgf φ) (h : ∀ c, 0 ≤ c → c < 9 → ψ 0 c = φ 0 c ∧ ψ 1 c = φ 1 c ∧ ψ 2 c = φ 2 c ∧ ψ 3 c = φ 3 c ∧ ψ 4 c = φ 4 c) (h5 : ψ 5 0 = φ 5 0 ∧ ψ 5 1 = φ 5 1 ∧ ψ 5 2 = φ 5 2) (h7 : ψ 7 0 = φ 7 0) (h8 : ψ 8 0 = φ 8 0) (h9 : ψ 9 0 = φ 9 0) (h10 : ψ 10 0 = φ 10 0) : kgf ψ := by
  obtain ⟨⟨b7, b8, b9, bc⟩, gd, gs, gl, gw, gp, gy, gm, gz⟩ := g
  have hc : ∀ c px py, 0 ≤ c → c < φ 7 0 → cov ψ c px py → cov φ c px py := fun c px py c0 c1 => by
    obtain ⟨e0, -, -, e3, e4⟩ := h c c0 (by omega)
    unfold cov
    rw [e0, e3, e4]
    exact id
  refine ⟨⟨by rw [h7]; exact b7, by rw [h8]; exact b8, by rw [h9]; exact b9, fun c c0 c1 => ?_⟩, fun c d px py c0 c1 d0 d1 kc kd => gd c d px py c0 (by omega) d0 (by omega) (hc c px py c0 (by omega) kc) (hc d px py d0 (by omega) kd), fun c c0 c1 => ?_, fun c c0 c1 hx => ?_, by rw [h8, h9]; exact gw, by rw [h10]; exact gp, by rw [h5.1]; exact gy, by rw [h5.2.1]; exact gm, by rw [h5.2.2]; exact gz⟩
  · obtain ⟨e0, -, -, e3, e4⟩ := h c c0 (by omega)
    rw [e0, e3, e4]; exact bc c c0 (by omega)
  · obtain ⟨e0, e1, e2, -, -⟩ := h c c0 (by omega)
    rw [e0, e1, e2]; exact gs c c0 (by omega)
  · obtain ⟨e0, -, -, e3, e4⟩ := h c c0 (by omega)
    rw [e3] at hx
    rw [e0, e3, e4, h8, h9]; exact gl c c0 (by omega) hx
/-- a step is noted from B on -/
theorem c_noteB (hf : fl ≠ pa) : ∃ V' : dV, dv_c (dv_c (dv_c (dv_u (dv_u (dv_u U pa 0 B k) pa 0 (B + 1) (U fl 10 0)) pa 0 (B + 2) (U fl 5 0)) fl 3 0 pa 0 (B + 3) 9) fl 4 0 pa 0 (B + 3 + 9) 9) fl 2 0 pa 0 (B + 3 + 18) 9 = V' ∧ (∀ b m z, ¬ (b = pa ∧ m = 0) → V' b m z = U b m z) ∧ (∀ z, ¬ (B ≤ z ∧ z < B + 30) → V' pa 0 z = U pa 0 z) ∧ V' pa 0 B = k ∧ V' pa 0 (B + 1) = U fl 10 0 ∧ V' pa 0 (B + 2) = U fl 5 0 ∧ ∀ c, 0 ≤ c → c < 9 → V' pa 0 (B + (3 + c)) = U fl 3 c ∧ V' pa 0 (B + (12 + c)) = U fl 4 c ∧ V' pa 0 (B + (21 + c)) = U fl 2 c := by
  refine ⟨_, rfl, fun b m z h => ?_, fun z h => ?_, ?_, ?_, ?_, fun c c0 c9 => ⟨?_, ?_, ?_⟩⟩
  · by_cases e : b = pa
    · have e1 : m ≠ 0 := fun q => h ⟨e, q⟩
      rw [cp_j e1, cp_j e1, cp_j e1, u_j e1, u_j e1, u_j e1]
    · rw [cp_b e, cp_b e, cp_b e, u_b e, u_b e, u_b e]
  · rw [cp_out (by omega), cp_out (by omega), cp_out (by omega), u_i (by omega), u_i (by omega), u_i (by omega)]
  · rw [cp_out (by omega), cp_out (by omega), cp_out (by omega), u_i (by omega), u_i (by omega), u_e]
  · rw [cp_out (by omega), cp_out (by omega), cp_out (by omega), u_i (by omega), u_e]
  · rw [cp_out (by omega), cp_out (by omega), cp_out (by omega), u_e]
  · rw [cp_out (by omega), cp_out (by omega), cp_in (by omega), u_b hf, u_b hf, u_b hf, show (0 : Int) + (B + (3 + c) - (B + 3)) = c by omega]
  · rw [cp_out (by omega), cp_in (by omega), cp_b hf, u_b hf, u_b hf, u_b hf, show (0 : Int) + (B + (12 + c) - (B + 3 + 9)) = c by omega]
  · rw [cp_in (by omega), cp_b hf, cp_b hf, u_b hf, u_b hf, u_b hf, show (0 : Int) + (B + (21 + c) - (B + 3 + 18)) = c by omega]
/-- what there was, without the eldest if there are sixteen -/
theorem c_note (hf : fl ≠ pa) (hn : 0 ≤ V pa 4 0 ∧ V pa 4 0 ≤ 16) : ∃ (V' : dV) (n d : Int), f_X4_note V pa k fl = (V', 0) ∧ ((V pa 4 0 < 16 ∧ n = V pa 4 0 ∧ d = 0) ∨ (V pa 4 0 = 16 ∧ n = 15 ∧ d = 30)) ∧ (∀ b m z, ¬ (b = pa ∧ (m = 0 ∨ m = 4)) → V' b m z = V b m z) ∧ V' pa 4 0 = n + 1 ∧ (∀ z, 0 ≤ z → z < 30 * n → V' pa 0 z = V pa 0 (z + d)) ∧ V' pa 0 (30 * n) = k ∧ V' pa 0 (30 * n + 1) = V fl 10 0 ∧ V' pa 0 (30 * n + 2) = V fl 5 0 ∧ ∀ c, 0 ≤ c → c < 9 → V' pa 0 (30 * n + (3 + c)) = V fl 3 c ∧ V' pa 0 (30 * n + (12 + c)) = V fl 4 c ∧ V' pa 0 (30 * n + (21 + c)) = V fl 2 c := by
  have ub : ∀ (X : dV) (j' : Nat) (i v : Int) (m' : Nat) (z : Int), dv_u X pa j' i v fl m' z = X fl m' z := fun X j' i v m' z => u_b hf
  unfold f_X4_note
  by_cases e : V pa 4 0 < 16
  · obtain ⟨V1, e1, f1, f2, f3, f4, f5, f6⟩ := c_noteB (U := V) (k := k) (B := V pa 4 0 * 30) hf
    have g4 : V1 pa 4 0 = V pa 4 0 := f1 pa 4 0 (fun q => absurd q.2 (by decide))
    refine ⟨dv_u V1 pa 4 0 (V pa 4 0 + 1), V pa 4 0, 0, ?_, Or.inl ⟨e, rfl, rfl⟩, fun b m z h => ?_, u_e, fun z z0 z1 => ?_, ?_, ?_, ?_, fun c c0 c9 => ?_⟩
    · rw [bq, if_pos e]
      simp only [bq, ub]
      rw [e1, g4]
    · by_cases eb : b = pa
      · rw [u_j (fun q => h ⟨eb, Or.inr q⟩)]; exact f1 b m z (fun q => h ⟨eb, Or.inl q.2⟩)
      · rw [u_b eb]; exact f1 b m z (fun q => eb q.1)
    · rw [u_j (by decide), f2 z (by omega), Int.add_zero]
    · rw [u_j (by decide), show 30 * V pa 4 0 = V pa 4 0 * 30 by omega]; exact f3
    · rw [u_j (by decide), show 30 * V pa 4 0 = V pa 4 0 * 30 by omega]; exact f4
    · rw [u_j (by decide), show 30 * V pa 4 0 = V pa 4 0 * 30 by omega]; exact f5
    · rw [u_j (by decide), u_j (by decide), u_j (by decide), show 30 * V pa 4 0 = V pa 4 0 * 30 by omega]; exact f6 c c0 c9
  · have hs : ∀ z, 0 ≤ z → z < 450 → dv_u (dv_c V pa 0 30 pa 0 0 450) pa 4 0 15 pa 0 z = V pa 0 (z + 30) := fun z z0 z1 => by
      rw [u_j (by decide), cp_in (by omega)]; congr 1; omega
    have hb : ∀ b m z, ¬ (b = pa ∧ (m = 0 ∨ m = 4)) → dv_u (dv_c V pa 0 30 pa 0 0 450) pa 4 0 15 b m z = V b m z := fun b m z h => by
      by_cases eb : b = pa
      · rw [u_j (fun q => h ⟨eb, Or.inr q⟩), cp_j (fun q => h ⟨eb, Or.inl q⟩)]
      · rw [u_b eb, cp_b eb]
    have h4 : dv_u (dv_c V pa 0 30 pa 0 0 450) pa 4 0 15 pa 4 0 = 15 := u_e
    have hfl : ∀ m z, dv_u (dv_c V pa 0 30 pa 0 0 450) pa 4 0 15 fl m z = V fl m z := fun m z => hb fl m z (fun q => hf q.1)
    obtain ⟨V1, e1, f1, f2, f3, f4, f5, f6⟩ := c_noteB (U := dv_u (dv_c V pa 0 30 pa 0 0 450) pa 4 0 15) (k := k) (B := 15 * 30) hf
    rw [hfl] at f4 f5
    refine ⟨dv_u V1 pa 4 0 (15 + 1), 15, 30, ?_, Or.inr ⟨by omega, rfl, rfl⟩, fun b m z h => ?_, u_e, fun z z0 z1 => ?_, ?_, ?_, ?_, fun c c0 c9 => ?_⟩
    · rw [bq, if_neg e]
      simp only [bq, ub]
      rw [← e1]
      simp only [ub]
    · by_cases eb : b = pa
      · rw [u_j (fun q => h ⟨eb, Or.inr q⟩), f1 b m z (fun q => h ⟨eb, Or.inl q.2⟩)]; exact hb b m z h
      · rw [u_b eb, f1 b m z (fun q => eb q.1)]; exact hb b m z h
    · rw [u_j (by decide), f2 z (by omega)]; exact hs z z0 (by omega)
    · rw [u_j (by decide)]; exact f3
    · rw [u_j (by decide)]; exact f4
    · rw [u_j (by decide)]; exact f5
    · rw [u_j (by decide), u_j (by decide), u_j (by decide), ← hfl 3, ← hfl 4, ← hfl 2]; exact f6 c c0 c9
/-- the reference notes -/
theorem m_54 (hn : 0 ≤ W a 33 0 ∧ W a 33 0 ≤ 15) : ∃ W', f_X12_keeps_52 W a k = (W', 0) ∧ (∀ b m z, ¬ (b = a ∧ (m = 31 ∨ m = 33)) → W' b m z = W b m z) ∧ W' a 33 0 = W a 33 0 + 1 ∧ (∀ z, 0 ≤ z → z < 30 * W a 33 0 → W' a 31 z = W a 31 z) ∧ W' a 31 (30 * W a 33 0 + 29) = k ∧ ∀ i, 0 ≤ i → i < 29 → W' a 31 (30 * W a 33 0 + i) = W a 2 i := by
  unfold f_X12_keeps_52
  refine dv_inv (P := fun q => ∃ (U : dV) (j : Int), q = (U, a, k, j) ∧ 0 ≤ j ∧ j ≤ 29 ∧ (∀ b m z, ¬ (b = a ∧ m = 31) → U b m z = W b m z) ∧ (∀ z, 0 ≤ z → z < 30 * W a 33 0 → U a 31 z = W a 31 z) ∧ ∀ i, 0 ≤ i → i < j → U a 31 (30 * W a 33 0 + i) = W a 2 i) (Q := fun q => ∃ W' : dV, q = (W', 0) ∧ (∀ b m z, ¬ (b = a ∧ (m = 31 ∨ m = 33)) → W' b m z = W b m z) ∧ W' a 33 0 = W a 33 0 + 1 ∧ (∀ z, 0 ≤ z → z < 30 * W a 33 0 → W' a 31 z = W a 31 z) ∧ W' a 31 (30 * W a 33 0 + 29) = k ∧ ∀ i, 0 ≤ i → i < 29 → W' a 31 (30 * W a 33 0 + i) = W a 2 i) (m := fun q => (29 - q.2.2.2).toNat) ?_ _ ⟨W, 0, rfl, by omega, by omega, fun _ _ _ _ => rfl, fun _ _ _ => rfl, fun i i0 i1 => absurd i1 (by omega)⟩
  rintro q ⟨U, j, rfl, j0, j1, hf, hz, hi⟩
  have u33 : U a 33 0 = W a 33 0 := hf a 33 0 (fun q => absurd q.2 (by decide))
  have u2 : ∀ z, U a 2 z = W a 2 z := fun z => hf a 2 z (fun q => absurd q.2 (by decide))
  rw [f_X12_keeps_54e]
  unfold f_X12_keeps_54c
  by_cases e : 29 ≤ j
  · rw [if_pos e, bq, u33, bq, bq, bq, bq, bq, bq, u_j (show (33 : Nat) ≠ 31 by decide), u33]
    refine Or.inr ⟨_, rfl, _, rfl, fun b m z h => ?_, u_e, fun z z0 z1 => ?_, ?_, fun i i0 i1 => ?_⟩
    · by_cases eb : b = a
      · rw [u_j (fun q => h ⟨eb, Or.inr q⟩), u_j (fun q => h ⟨eb, Or.inl q⟩)]; exact hf b m z (fun q => h ⟨eb, Or.inl q.2⟩)
      · rw [u_b eb, u_b eb]; exact hf b m z (fun q => eb q.1)
    · rw [u_j (by decide), u_i (by omega)]; exact hz z z0 z1
    · rw [u_j (by decide), u_e]
    · rw [u_j (by decide), u_i (by omega)]; exact hi i i0 (by omega)
  · rw [if_neg e, bq, u33, bq, bq, bq, u2, bq, bq]
    refine Or.inl ⟨_, rfl, ⟨_, j + 1, rfl, by omega, by omega, fun b m z h => ?_, fun z z0 z1 => ?_, fun i i0 i1 => ?_⟩, by dsimp only; omega⟩
    · by_cases eb : b = a
      · rw [u_j (fun q => h ⟨eb, q⟩)]; exact hf b m z h
      · rw [u_b eb]; exact hf b m z h
    · rw [u_i (by omega)]; exact hz z z0 z1
    · by_cases q : i = j
      · rw [q, u_e]
      · rw [u_i (by omega)]; exact hi i i0 (by omega)
theorem m_keeps (hn : 0 ≤ W a 33 0 ∧ W a 33 0 ≤ 16) : ∃ (W' : dV) (n d : Int), f_X12_keeps W a k = (W', 0) ∧ ((W a 33 0 < 16 ∧ n = W a 33 0 ∧ d = 0) ∨ (W a 33 0 = 16 ∧ n = 15 ∧ d = 30)) ∧ (∀ b m z, ¬ (b = a ∧ (m = 31 ∨ m = 33)) → W' b m z = W b m z) ∧ W' a 33 0 = n + 1 ∧ (∀ z, 0 ≤ z → z < 30 * n → W' a 31 z = W a 31 (z + d)) ∧ W' a 31 (30 * n + 29) = k ∧ ∀ i, 0 ≤ i → i < 29 → W' a 31 (30 * n + i) = W a 2 i := by
  unfold f_X12_keeps
  by_cases e : W a 33 0 = 16
  case neg =>
    obtain ⟨W', e1, e2, e3, e4, e5, e6⟩ := m_54 (W := W) (a := a) (k := k) (by omega)
    exact ⟨W', W a 33 0, 0, by rw [bq, if_pos e, e1], Or.inl ⟨by omega, rfl, rfl⟩, e2, e3, fun z z0 z1 => by rw [Int.add_zero]; exact e4 z z0 z1, e5, e6⟩
  case pos =>
    have L : ∃ U : dV, dv_lp f_X12_keeps_14b (W, a, k, 0) = f_X12_keeps_52 U a k ∧ (∀ b m z, ¬ (b = a ∧ (m = 31 ∨ m = 33)) → U b m z = W b m z) ∧ U a 33 0 = 15 ∧ ∀ z, 0 ≤ z → z < 450 → U a 31 z = W a 31 (z + 30) := by
      refine dv_inv (P := fun q => ∃ (U : dV) (j : Int), q = (U, a, k, j) ∧ 0 ≤ j ∧ j ≤ 450 ∧ (∀ b m z, ¬ (b = a ∧ m = 31) → U b m z = W b m z) ∧ ∀ z, U a 31 z = if 0 ≤ z ∧ z < j then W a 31 (z + 30) else W a 31 z) (Q := fun q => ∃ U : dV, q = f_X12_keeps_52 U a k ∧ (∀ b m z, ¬ (b = a ∧ (m = 31 ∨ m = 33)) → U b m z = W b m z) ∧ U a 33 0 = 15 ∧ ∀ z, 0 ≤ z → z < 450 → U a 31 z = W a 31 (z + 30)) (m := fun q => (450 - q.2.2.2).toNat) ?_ _ ⟨W, 0, rfl, by omega, by omega, fun _ _ _ _ => rfl, fun z => by rw [if_neg (by omega)]⟩
      rintro q ⟨U, j, rfl, j0, j1, hf, hz⟩
      have u33 : U a 33 0 = W a 33 0 := hf a 33 0 (fun q => absurd q.2 (by decide))
      rw [f_X12_keeps_14e]
      unfold f_X12_keeps_14c
      rw [bq]
      by_cases e1 : 15 * 30 ≤ j
      · rw [if_pos e1, bq, bq, bq, u33, e]
        refine Or.inr ⟨_, rfl, _, rfl, fun b m z h => ?_, by rw [u_e]; rfl, fun z z0 z1 => ?_⟩
        · by_cases eb : b = a
          · rw [u_j (fun q => h ⟨eb, Or.inr q⟩)]; exact hf b m z (fun q => h ⟨eb, Or.inl q.2⟩)
          · rw [u_b eb]; exact hf b m z (fun q => eb q.1)
        · rw [u_j (by decide), hz, if_pos (by omega)]
      · rw [if_neg e1, bq, bq, bq, bq, hz, if_neg (by omega)]
        refine Or.inl ⟨_, rfl, ⟨_, j + 1, rfl, by omega, by omega, fun b m z h => ?_, fun z => ?_⟩, by dsimp only; omega⟩
        · by_cases eb : b = a
          · rw [u_j (fun q => h ⟨eb, q⟩)]; exact hf b m z h
          · rw [u_b eb]; exact hf b m z h
        · rw [u_if]
          by_cases q : z = j
          · rw [if_pos q, if_pos (by omega), q]
          · rw [if_neg q, hz]
            by_cases q1 : 0 ≤ z ∧ z < j
            · rw [if_pos q1, if_pos (by omega)]
            · rw [if_neg q1, if_neg (by omega)]
    obtain ⟨U, l1, l2, l3, l4⟩ := L
    obtain ⟨W', e1, e2, e3, e4, e5, e6⟩ := m_54 (W := U) (a := a) (k := k) (by omega)
    rw [l3] at e3 e4 e5 e6
    refine ⟨W', 15, 30, ?_, Or.inr ⟨e, rfl, rfl⟩, fun b m z h => (e2 b m z h).trans (l2 b m z h), e3, fun z z0 z1 => by rw [e4 z z0 z1, l4 z z0 (by omega)], e5, fun i i0 i1 => by rw [e6 i i0 i1, l2 a 2 i (fun q => absurd q.2 (by decide))]⟩
    rw [bq, if_neg (fun q => q e), l1, e1]
/-- a deed is noted in both -/
theorem RR_note (h : RR A a V W) (hk : 0 ≤ k ∧ k ≤ 3) : ∃ V' W', f_X4_note V (A 15) k (A 4) = (V', 0) ∧ f_X12_keeps W a k = (W', 0) ∧ (∀ b m z, ¬ (b = A 15 ∧ (m = 0 ∨ m = 4)) → V' b m z = V b m z) ∧ (∀ b m z, ¬ (b = a ∧ (m = 31 ∨ m = 33)) → W' b m z = W b m z) ∧ RR A a V' W' := by
  have hA := h.1
  obtain ⟨kk, e7, e8, e9, e10, e50, e51, e52, ec⟩ := RR_n h
  obtain ⟨-, -, ⟨⟨fe, -⟩, -, -⟩, -, -, ⟨p1, p2, p3⟩, -⟩ := id h
  obtain ⟨V', n, d, eV, hn, f1, f2, f3, f4, f5, f6, f7⟩ := c_note (V := V) (pa := A 15) (fl := A 4) (k := k) (inj_n hA (by decide) (by decide) (by decide)) (by omega)
  obtain ⟨W', n', d', eW, hn', g1, g2, g3, g4, g5⟩ := m_keeps (W := W) (a := a) (k := k) p2
  have en : n' = n ∧ d' = d := by omega
  rw [en.1] at g2 g3 g4 g5
  rw [en.2] at g3
  have hn16 : 0 ≤ n ∧ n ≤ 15 := by omega
  have F4 : ∀ m z, V' (A 4) m z = V (A 4) m z := fun m z => f1 _ m z (fun q => inj_n hA (by decide) (by decide) (by decide) q.1)
  have w2 : ∀ z, W' a 2 z = W a 2 z := fun z => g1 a 2 z (fun q => absurd q.2 (by decide))
  refine ⟨V', W', eV, eW, f1, g1, RR_act h (fun i m z hi hm hL => f1 _ m z (fun q => ?_)) (fun m z hm => g1 a m z (fun q => ?_)) (fun z _ => f1 _ 1 z (fun q => inj_n hA (by decide) (by decide) (by decide) q.1)) (fun z _ => w2 z) (flR_c h.2.2.1.1 (fun j c _ _ => (F4 j c).symm) (fun z _ => w2 _)) ⟨by rw [f2, g2], by rw [g2]; omega, fun u u0 u1 => ?_⟩⟩
  · have := hA.1 i 15 hi (by decide) q.1
    subst this
    rcases q.2 with rfl | rfl <;> cases hL
  · rcases q.2 with rfl | rfl <;> cases hm
  · rw [g2] at u1
    by_cases eu : u = n
    · subst eu
      refine ⟨⟨by rw [f4, g4], by rw [f4]; exact hk, ?_, ?_, fun c c0 c9 => ?_⟩, kg_9 kk (fun c c0 c9 => ?_) ?_ (F4 7 0) (F4 8 0) (F4 9 0) ?_⟩
      · rw [f5, g5 27 (by decide) (by decide), e10]
      · rw [f6, g5 28 (by decide) (by decide), e50]
      · obtain ⟨q1, q2, q3⟩ := f7 c c0 c9
        obtain ⟨-, -, r2, r3, r4⟩ := ec c c0 c9
        rw [q1, q2, q3, g5 (9 + c) (by omega) (by omega), g5 (18 + c) (by omega) (by omega), g5 c (by omega) (by omega)]
        exact ⟨r3, r4, r2⟩
      · obtain ⟨r0, r1, r2, r3, r4⟩ := ec c c0 c9
        refine ⟨F4 0 c, F4 1 c, ?_, ?_, ?_⟩
        · show W' a 31 (30 * u + c) = _
          rw [g5 c (by omega) (by omega), r2]
        · show W' a 31 (30 * u + (9 + c)) = _
          rw [g5 (9 + c) (by omega) (by omega), r3]
        · show W' a 31 (30 * u + (18 + c)) = _
          rw [g5 (18 + c) (by omega) (by omega), r4]
      · refine ⟨?_, ?_, ?_⟩
        · show (if (0 : Int) = 0 then W' a 31 (30 * u + 28) else V' (A 4) 5 0) = _
          rw [if_pos rfl, g5 28 (by decide) (by decide), e50]
        · show (if (1 : Int) = 0 then W' a 31 (30 * u + 28) else V' (A 4) 5 1) = _
          rw [if_neg (by decide)]; exact F4 5 1
        · show (if (2 : Int) = 0 then W' a 31 (30 * u + 28) else V' (A 4) 5 2) = _
          rw [if_neg (by decide)]; exact F4 5 2
      · show W' a 31 (30 * u + 27) = _
        rw [g5 27 (by decide) (by decide), e10]
    · -- an elder one
      obtain ⟨v, hv⟩ : ∃ v, 30 * v = 30 * u + d ∧ 0 ≤ v ∧ v < W a 33 0 := by
        rcases hn with ⟨q1, q2, q3⟩ | ⟨q1, q2, q3⟩
        · exact ⟨u, by omega, by omega, by omega⟩
        · exact ⟨u + 1, by omega, by omega, by omega⟩
      obtain ⟨hv, v0, v1⟩ := hv
      obtain ⟨⟨s1, s2, s3, s4, s5⟩, s6⟩ := p3 v v0 v1
      have fz : ∀ i, 0 ≤ i → i < 30 → V' (A 15) 0 (30 * u + i) = V (A 15) 0 (30 * v + i) := fun i i0 i1 => by
        rw [f3 _ (by omega) (by omega)]; congr 1; omega
      have gz : ∀ i, 0 ≤ i → i < 30 → W' a 31 (30 * u + i) = W a 31 (30 * v + i) := fun i i0 i1 => by
        rw [g3 _ (by omega) (by omega)]; congr 1; omega
      have f0 : V' (A 15) 0 (30 * u) = V (A 15) 0 (30 * v) := by
        have := fz 0 (by decide) (by decide)
        rw [Int.add_zero, Int.add_zero] at this; exact this
      refine ⟨⟨by rw [f0, gz 29 (by decide) (by decide)]; exact s1, by rw [f0]; exact s2, by rw [fz 1 (by decide) (by decide), gz 27 (by decide) (by decide)]; exact s3, by rw [fz 2 (by decide) (by decide), gz 28 (by decide) (by decide)]; exact s4, fun c c0 c9 => ?_⟩, kg_9 s6 (fun c c0 c9 => ⟨F4 0 c, F4 1 c, ?_, ?_, ?_⟩) ⟨?_, ?_, ?_⟩ (F4 7 0) (F4 8 0) (F4 9 0) ?_⟩
      · rw [fz _ (by omega) (by omega), fz _ (by omega) (by omega), fz _ (by omega) (by omega), gz _ (by omega) (by omega), gz _ (by omega) (by omega), gz _ (by omega) (by omega)]
        exact s5 c c0 c9
      · exact gz c (by omega) (by omega)
      · exact gz (9 + c) (by omega) (by omega)
      · exact gz (18 + c) (by omega) (by omega)
      · exact gz 28 (by decide) (by decide)
      · exact F4 5 1
      · exact F4 5 2
      · exact gz 27 (by decide) (by decide)
end QSU
