section LXF
variable {G : th_G} {Γ Γ1 : th_Ga} {H H1 : Heap} {L : List (Nat × Nat)} {ax am : Nat}
def lw_off : List Nat := [0, 1, 91, 122, 2, 92, 123, 34, 42, 50, 52, 55, 58, 62, 63, 67, 70, 0, 0, 0, 14, 17, 20, 23, 26, 29, 104, 107, 110, 113, 116, 119, 135, 138, 141, 144, 147, 150]
def lw_rl : List Nat := [42, 32, 32, 32, 3, 3, 3, 3, 3, 37, 20, 39, 23, 11, 23, 17, 3, 0, 0, 0, 39, 39, 39, 39, 39, 39, 39, 39, 39, 39, 39, 39, 39, 39, 39, 39, 39, 39]
def lw_sp (i : Nat) : Bool := i == 17 || i == 18 || i == 19
/-- the class's objects, by number -/
def lw_A (ax : Nat) : Nat → Int := fun i => if lw_sp i = true then -(i : Int) else ((ax + lw_off.getD i 0 : Nat) : Int)
def lw_AR (Γ : th_Ga) (ax : Nat) : Prop := ∀ i : Nat, i < 38 → lw_sp i = false → Γ (ax + lw_off.getD i 0) = (lw_rl.getD i 0, 0)
theorem lw_spl {i : Nat} (h : lw_sp i = true) : 17 ≤ i := by
  unfold lw_sp at h
  simp at h
  omega
theorem lw_An {i : Nat} (h : lw_sp i = true) : lw_A ax i < 0 := by
  have := lw_spl h
  unfold lw_A
  rw [if_pos h]
  omega
theorem lw_Ae {i : Nat} (h : lw_sp i = false) : lw_A ax i = ((ax + lw_off.getD i 0 : Nat) : Int) := by
  unfold lw_A
  rw [if_neg (by rw [h]; decide)]
theorem lw_A0 : lw_A ax 0 = (ax : Int) := lw_Ae rfl
theorem lw_ap : ((List.range 38).all fun i => (List.range 38).all fun j => i == j || lw_sp i || lw_sp j || lw_off.getD i 0 != lw_off.getD j 0) = true := by decide +kernel
theorem lw_inj : inj (lw_A ax) := by
  refine ⟨fun i j hi hj e => ?_, fun i hi e => ?_⟩
  · cases si : lw_sp i with
    | true =>
      cases sj : lw_sp j with
      | true =>
        unfold lw_A at e
        rw [if_pos si, if_pos sj] at e
        omega
      | false =>
        have h := lw_An (ax := ax) si
        rw [e, lw_Ae sj] at h
        omega
    | false =>
      cases sj : lw_sp j with
      | true =>
        have h := lw_An (ax := ax) sj
        rw [← e, lw_Ae si] at h
        omega
      | false =>
        rw [lw_Ae si, lw_Ae sj] at e
        have h1 := List.all_eq_true.mp lw_ap i (List.mem_range.mpr hi)
        have h2 := List.all_eq_true.mp h1 j (List.mem_range.mpr hj)
        rw [si, sj] at h2
        have e2 : lw_off.getD i 0 = lw_off.getD j 0 := by omega
        rw [e2] at h2
        simpa using h2
  · cases si : lw_sp i with
    | true =>
      have := lw_spl si
      unfold lw_A at e
      rw [if_pos si] at e
      omega
    | false =>
      rw [lw_Ae si] at e
      omega
theorem lx_fr (hI : th_I G Γ H) (hI1 : th_I G Γ H1) (hF : th_F G Γ L H H1) {a r o k : Nat} {fs : List th_sp} (ha : Γ a = (r, o)) (hr : th_ro r = some (.inl (k, fs))) {m : Nat} (h : ∀ q : th_sp, fs[m]? = some q → th_in L r m = false ∧ (q.1 = 4 → th_in L q.2.1.toNat 0 = false)) (z : Int) : dv G Γ H1 (a : Int) m z = dv G Γ H (a : Int) m z := by
  cases hq : fs[m]? with
  | some q => exact dv_F hI hI1 hF rfl ha hr hq (h q hq).1 (h q hq).2
  | none =>
    have hno : ∀ H2 : Heap, dv G Γ H2 (a : Int) m z = 0 := fun H2 => dv_no (Or.inr (by
      rintro ⟨r', o', k', fs', q', w1, w2, w3⟩
      rw [Int.toNat_natCast, ha] at w1
      cases w1
      rw [hr] at w2
      cases w2
      rw [hq] at w3
      cases w3))
    rw [hno, hno]
/-- nothing of the class's objects is in L but what M leaves out -/
def lx_okA (M : Nat → Nat → Bool) (L : List (Nat × Nat)) : Bool := (List.range 38).all fun i => lw_sp i || (List.range 20).all fun m => M i m || (match th_ro (lw_rl.getD i 0) with
  | some (.inl (_, fs)) => (match fs[m]? with
    | some q => !th_in L (lw_rl.getD i 0) m && (!(q.1 == 4) || !th_in L q.2.1.toNat 0)
    | none => true)
  | _ => false)
theorem lw_cf {M : Nat → Nat → Bool} (hI : th_I G Γ H) (hI1 : th_I G Γ H1) (hF : th_F G Γ L H H1) (hA : lw_AR Γ ax) (hL : lx_okA M L = true) : cf (lw_A ax) M (dv G Γ H) (dv G Γ H1) := by
  intro i m z hi hm hM
  cases hs : lw_sp i with
  | true =>
    have hn := lw_An (ax := ax) hs
    rw [dv_no (Or.inl (Or.inl hn)), dv_no (Or.inl (Or.inl hn))]
  | false =>
    unfold lx_okA at hL
    have h1 := List.all_eq_true.mp hL i (List.mem_range.mpr hi)
    rw [hs, Bool.false_or] at h1
    have h2 := List.all_eq_true.mp h1 m (List.mem_range.mpr hm)
    rw [hM, Bool.false_or] at h2
    rw [lw_Ae hs]
    have ha := hA i hi hs
    generalize lw_rl.getD i 0 = r at ha h2
    cases hr : th_ro r with
    | none => rw [hr] at h2; cases h2
    | some d =>
      rw [hr] at h2
      rcases d with ⟨k, fs⟩ | y
      · refine lx_fr hI hI1 hF ha hr (fun q hq => ?_) z
        simp only [hq] at h2
        obtain ⟨w1, w2⟩ := Bool.and_eq_true_iff.mp h2
        refine ⟨by simpa using w1, fun q4 => ?_⟩
        simpa [q4] using w2
      · cases h2
def lw_okm (M : Nat → Bool) (L : List (Nat × Nat)) : Bool := (List.range 57).all fun m => M m || (match th_f46[m]? with
  | some q => !th_in L 46 m && (!(q.1 == 4) || !th_in L q.2.1.toNat 0)
  | none => true)
theorem lw_wf {M : Nat → Bool} (hI : th_I G Γ H) (hI1 : th_I G Γ H1) (hF : th_F G Γ L H H1) (ham : Γ am = (46, 0)) (hL : lw_okm M L = true) : wf (am : Int) M (dv G Γ H) (dv G Γ H1) := by
  intro m z hM
  refine lx_fr hI hI1 hF ham ro_46 (fun q hq => ?_) z
  have hm : m < 57 := (List.getElem?_eq_some_iff.mp hq).1
  unfold lw_okm at hL
  have h2 := List.all_eq_true.mp hL m (List.mem_range.mpr hm)
  rw [hM, Bool.false_or] at h2
  simp only [hq] at h2
  obtain ⟨w1, w2⟩ := Bool.and_eq_true_iff.mp h2
  refine ⟨by simpa using w1, fun q4 => ?_⟩
  simpa [q4] using w2
theorem lw_kw (hI : th_I G Γ H) {a : Nat} (ha : Γ a = (23, 0)) {k : Int} (h0 : 0 ≤ k) (h23 : k < 23) : -2147483648 ≤ dv G Γ H (a : Int) 1 k ∧ dv G Γ H (a : Int) 1 k ≤ 2147483647 := by
  rw [dv_at (A := (a : Int)) (r := 23) (o := 0) (by omega) h0 (by rw [Int.toNat_natCast]; exact ha) ro_23 (j := 1) rfl, if_pos rfl, Int.toNat_natCast]
  obtain ⟨b, e1, e2⟩ := dv_ptr (j := 1) hI ha ro_23 rfl rfl
  rw [e1]
  obtain ⟨-, n, h1, h2, h3, h4⟩ := hI b 25 a _ e2 ro_25
  obtain ⟨x, x1, x2, x3⟩ := h4 k.toNat (by omega)
  show -2147483648 ≤ dv_iv (th_sl H b k.toNat) ∧ dv_iv (th_sl H b k.toNat) ≤ 2147483647
  rw [x1]
  exact ⟨x2, x3⟩
theorem lw_kwA (hI : th_I G Γ H) (hA : lw_AR Γ ax) : ∀ k : Int, 8 ≤ k → k < 23 → -2147483648 ≤ dv G Γ H (lw_A ax 14) 1 k ∧ dv G Γ H (lw_A ax 14) 1 k ≤ 2147483647 := fun k h8 h23 => by
  rw [lw_Ae (show lw_sp 14 = false from rfl)]
  exact lw_kw hI (hA 14 (by decide) rfl) (by omega) h23
theorem lw_NG : NG (dv G Γ H) := fun b m z hz => dv_no (Or.inl (Or.inr hz))
/-- the floors but the sheet -/
def cs_F (i m : Nat) : Bool := cs_L i m || i == 4 || i == 5 || i == 6 || i == 7 || i == 16
theorem lw_cfk (hI : th_I G Γ H) (hI1 : th_I G Γ H1) (hF : th_F G Γ L H H1) (hA : lw_AR Γ ax) (hk : kv G Γ H1 ((ax + 42 : Nat) : Int) = kv G Γ H ((ax + 42 : Nat) : Int)) (hL : lx_okA cs_F L = true) : cf (lw_A ax) cs_L (dv G Γ H) (dv G Γ H1) := by
  intro i m z hi hm hM
  by_cases hf : i = 4 ∨ i = 5 ∨ i = 6 ∨ i = 7 ∨ i = 16
  · have h6 : m ≠ 6 := fun e => by
      subst e
      rcases hf with rfl | rfl | rfl | rfl | rfl <;> cases hM
    have hs : lw_sp i = false := by rcases hf with rfl | rfl | rfl | rfl | rfl <;> rfl
    have hr : lw_rl.getD i 0 = 3 := by rcases hf with rfl | rfl | rfl | rfl | rfl <;> rfl
    have hne : lw_A ax i ≠ ((ax + 42 : Nat) : Int) := fun e => by
      have e8 : lw_A ax 8 = ((ax + 42 : Nat) : Int) := lw_Ae rfl
      have := (lw_inj (ax := ax)).1 i 8 hi (by decide) (e.trans e8.symm)
      omega
    have hg : (Γ (lw_A ax i).toNat).1 = 3 := by
      rw [lw_Ae hs, Int.toNat_natCast, hA i hi hs]
      exact hr
    have e := congrFun (congrFun (congrFun hk (lw_A ax i)) m) z
    unfold kv at e
    rw [if_pos ⟨hne, hg, h6⟩, if_pos ⟨hne, hg, h6⟩] at e
    exact e
  · exact lw_cf hI hI1 hF hA hL i m z hi hm (by
      unfold cs_F
      rw [hM]
      simp
      omega)
theorem lw_sh (hI : th_I G Γ H) (ha : Γ ax = (42, 0)) (h : dv G Γ H (ax : Int) 4 0 = ((ax + 42 : Nat) : Int)) : th_sl H ax (G.1.2 11 4) = .ref (ax + 42) := by
  obtain ⟨b, e1, -⟩ := lw_fr hI ha ro_42 (j := 4) (r2 := 3) rfl
  have e := dv_getR (j := 4) ha ro_42 rfl e1 (by decide)
  rw [h] at e
  have e2 : b = ax + 42 := by omega
  rw [e1, e2]
theorem lw_shR (hI : th_I G Γ H) (ha : Γ ax = (42, 0)) {W : dV} {a : Int} (h : RR (lw_A ax) a (dv G Γ H) W) : th_sl H ax (G.1.2 11 4) = .ref (ax + 42) := lw_sh hI ha (by
  have e := h.2.1.1.2.2.2.2.1
  rw [lw_A0] at e
  exact e)
theorem RR_46 {A : Nat → Int} {a : Int} {V W W2 : dV} (h : RR A a V W) (g : wf a (fun m => m == 46) W W2) : RR A a V W2 := by
  obtain ⟨h1, h2, h3, h4, h5, h6, h7, h8, h9, h10⟩ := h
  exact ⟨h1, h2, stR_c (by decide) h3 (fun _ _ _ _ _ _ => rfl) (fun z _ => g 2 _ rfl), imR_c h4 (fun _ _ _ _ _ _ => rfl) (fun z => g 3 z rfl) (fun z => g 4 z rfl), tpR_c h5 (fun _ _ _ _ _ _ => rfl) (fun z => g 11 z rfl) (g 13 0 rfl), psR_c h6 (fun _ _ _ _ _ _ => rfl) (fun z => g 31 z rfl) (g 33 0 rfl), ppR_c h7 (fun _ _ _ _ _ _ => rfl) (fun z => g 54 z rfl) (g 55 0 rfl), miR_c h8 (fun _ _ _ _ _ _ => rfl) (g 0 0 rfl) (fun z => g 1 z rfl), taR_c h9 (fun _ _ _ _ _ _ => rfl) (g 14 0 rfl) (g 6 0 rfl) (g 47 0 rfl), rdR_c h10 (fun z => rfl) (fun z _ => rfl) (fun z => g 7 z rfl) (fun z => g 17 z rfl)⟩
end LXF
