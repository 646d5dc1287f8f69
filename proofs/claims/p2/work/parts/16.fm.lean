section DVM
variable {G : th_G} {Γ : th_Ga} {H H1 : Heap}
/-- which field of which object holds the row -/
def dv_own (r : Nat) : Option (Nat × Nat) := match r with
  | 2 => some (1, 0)
  | 4 => some (3, 0)
  | 5 => some (3, 1)
  | 6 => some (3, 2)
  | 7 => some (3, 3)
  | 8 => some (3, 4)
  | 9 => some (3, 5)
  | 10 => some (3, 6)
  | 18 => some (17, 0)
  | 19 => some (17, 1)
  | 21 => some (20, 0)
  | 22 => some (20, 1)
  | 24 => some (23, 0)
  | 25 => some (23, 1)
  | 26 => some (23, 2)
  | 28 => some (27, 1)
  | 29 => some (27, 2)
  | 30 => some (27, 3)
  | 31 => some (27, 4)
  | 33 => some (32, 1)
  | 34 => some (32, 2)
  | 35 => some (32, 3)
  | 36 => some (32, 4)
  | 38 => some (37, 0)
  | 40 => some (39, 0)
  | 41 => some (39, 1)
  | 43 => some (42, 1)
  | 44 => some (42, 2)
  | 45 => some (42, 13)
  | 47 => some (46, 1)
  | 48 => some (46, 2)
  | 49 => some (46, 3)
  | 50 => some (46, 4)
  | 51 => some (46, 5)
  | 52 => some (46, 7)
  | 53 => some (46, 11)
  | 54 => some (46, 12)
  | 55 => some (46, 15)
  | 56 => some (46, 16)
  | 57 => some (46, 17)
  | 58 => some (46, 26)
  | 59 => some (46, 29)
  | 60 => some (46, 30)
  | 61 => some (46, 31)
  | 62 => some (46, 32)
  | 63 => some (46, 34)
  | 64 => some (46, 35)
  | 65 => some (46, 36)
  | 66 => some (46, 37)
  | 67 => some (46, 38)
  | 68 => some (46, 46)
  | 69 => some (46, 53)
  | 70 => some (46, 54)
  | _ => none
theorem ow_2 : dv_own 2 = some (1, 0) := rfl
theorem ow_4 : dv_own 4 = some (3, 0) := rfl
theorem ow_5 : dv_own 5 = some (3, 1) := rfl
theorem ow_6 : dv_own 6 = some (3, 2) := rfl
theorem ow_7 : dv_own 7 = some (3, 3) := rfl
theorem ow_8 : dv_own 8 = some (3, 4) := rfl
theorem ow_9 : dv_own 9 = some (3, 5) := rfl
theorem ow_10 : dv_own 10 = some (3, 6) := rfl
theorem ow_18 : dv_own 18 = some (17, 0) := rfl
theorem ow_19 : dv_own 19 = some (17, 1) := rfl
theorem ow_21 : dv_own 21 = some (20, 0) := rfl
theorem ow_22 : dv_own 22 = some (20, 1) := rfl
theorem ow_24 : dv_own 24 = some (23, 0) := rfl
theorem ow_25 : dv_own 25 = some (23, 1) := rfl
theorem ow_26 : dv_own 26 = some (23, 2) := rfl
theorem ow_28 : dv_own 28 = some (27, 1) := rfl
theorem ow_29 : dv_own 29 = some (27, 2) := rfl
theorem ow_30 : dv_own 30 = some (27, 3) := rfl
theorem ow_31 : dv_own 31 = some (27, 4) := rfl
theorem ow_33 : dv_own 33 = some (32, 1) := rfl
theorem ow_34 : dv_own 34 = some (32, 2) := rfl
theorem ow_35 : dv_own 35 = some (32, 3) := rfl
theorem ow_36 : dv_own 36 = some (32, 4) := rfl
theorem ow_38 : dv_own 38 = some (37, 0) := rfl
theorem ow_40 : dv_own 40 = some (39, 0) := rfl
theorem ow_41 : dv_own 41 = some (39, 1) := rfl
theorem ow_43 : dv_own 43 = some (42, 1) := rfl
theorem ow_44 : dv_own 44 = some (42, 2) := rfl
theorem ow_45 : dv_own 45 = some (42, 13) := rfl
theorem ow_47 : dv_own 47 = some (46, 1) := rfl
theorem ow_48 : dv_own 48 = some (46, 2) := rfl
theorem ow_49 : dv_own 49 = some (46, 3) := rfl
theorem ow_50 : dv_own 50 = some (46, 4) := rfl
theorem ow_51 : dv_own 51 = some (46, 5) := rfl
theorem ow_52 : dv_own 52 = some (46, 7) := rfl
theorem ow_53 : dv_own 53 = some (46, 11) := rfl
theorem ow_54 : dv_own 54 = some (46, 12) := rfl
theorem ow_55 : dv_own 55 = some (46, 15) := rfl
theorem ow_56 : dv_own 56 = some (46, 16) := rfl
theorem ow_57 : dv_own 57 = some (46, 17) := rfl
theorem ow_58 : dv_own 58 = some (46, 26) := rfl
theorem ow_59 : dv_own 59 = some (46, 29) := rfl
theorem ow_60 : dv_own 60 = some (46, 30) := rfl
theorem ow_61 : dv_own 61 = some (46, 31) := rfl
theorem ow_62 : dv_own 62 = some (46, 32) := rfl
theorem ow_63 : dv_own 63 = some (46, 34) := rfl
theorem ow_64 : dv_own 64 = some (46, 35) := rfl
theorem ow_65 : dv_own 65 = some (46, 36) := rfl
theorem ow_66 : dv_own 66 = some (46, 37) := rfl
theorem ow_67 : dv_own 67 = some (46, 38) := rfl
theorem ow_68 : dv_own 68 = some (46, 46) := rfl
theorem ow_69 : dv_own 69 = some (46, 53) := rfl
theorem ow_70 : dv_own 70 = some (46, 54) := rfl
/-- each row has one owner, each field one row -/
def dv_U (Γ : th_Ga) : Prop := ∀ b r o rk j : Nat, Γ b = (r, o) → dv_own r = some (rk, j) → Γ o = (rk, 0) ∧ ∀ b' : Nat, Γ b' = (r, o) → b' = b
def dv_isa (r : Nat) : Bool := match th_ro r with | some (.inr _) => true | _ => false
def dv_ck (rk : Nat) : Bool := match th_ro rk with
  | some (.inl (_, fs)) => (List.range fs.length).all (fun j => match fs[j]? with
    | some q => !(q.1 == 4) || (dv_own q.2.1.toNat == some (rk, j) && dv_isa q.2.1.toNat)
    | none => true)
  | _ => true
theorem dv_ck_all : (List.range 100).all dv_ck = true := by decide +kernel
theorem dv_ro_lt {r : Nat} {d : th_De} (h : th_ro r = some d) : r < 100 := by
  rcases r with _ | r
  · cases h
  · have h1 : th_rl[r]? = some d := h
    have h2 := (List.getElem?_eq_some_iff.mp h1).1
    have h3 : th_rl.length ≤ 99 := by decide
    omega
theorem dv_ow {rk k j : Nat} {fs : List th_sp} {q : th_sp} (hr : th_ro rk = some (.inl (k, fs))) (hq : fs[j]? = some q) (h4 : q.1 = 4) : dv_own q.2.1.toNat = some (rk, j) ∧ ∃ y, th_ro q.2.1.toNat = some (.inr y) := by
  have h1 := List.all_eq_true.mp dv_ck_all rk (List.mem_range.mpr (dv_ro_lt hr))
  unfold dv_ck at h1
  rw [hr] at h1
  have h2 := List.all_eq_true.mp h1 j (List.mem_range.mpr (List.getElem?_eq_some_iff.mp hq).1)
  rw [hq] at h2
  simp only [h4] at h2
  have h3 : (dv_own q.2.1.toNat == some (rk, j) && dv_isa q.2.1.toNat) = true := by simpa using h2
  obtain ⟨h5, h6⟩ := Bool.and_eq_true_iff.mp h3
  refine ⟨by simpa using h5, ?_⟩
  unfold dv_isa at h6
  split at h6
  · rename_i y hy; exact ⟨y, hy⟩
  · cases h6
def dv_ck2 (r : Nat) : Bool := match dv_own r with
  | some (rk, j) => (match th_ro rk with
    | some (.inl (_, fs)) => (match fs[j]? with
      | some q => q.1 == 4 && q.2.1 == (r : Int)
      | none => false)
    | _ => false) && dv_isa r
  | none => true
theorem dv_ck2_all : (List.range 100).all dv_ck2 = true := by decide +kernel
theorem dv_own_lt {r : Nat} {x : Nat × Nat} (h : dv_own r = some x) : r < 100 := by
  unfold dv_own at h
  split at h <;> first | omega | cases h
theorem dv_ow2 {r rk j : Nat} (h : dv_own r = some (rk, j)) : (∃ k fs q, th_ro rk = some (.inl (k, fs)) ∧ fs[j]? = some q ∧ q.1 = 4 ∧ q.2.1 = (r : Int)) ∧ ∃ y, th_ro r = some (.inr y) := by
  have h1 := List.all_eq_true.mp dv_ck2_all r (List.mem_range.mpr (dv_own_lt h))
  unfold dv_ck2 at h1
  rw [h] at h1
  obtain ⟨h2, h3⟩ := Bool.and_eq_true_iff.mp h1
  constructor
  · revert h2
    cases hd : th_ro rk with
    | none => intro h2; cases h2
    | some d =>
      cases d with
      | inr y => intro h2; cases h2
      | inl x =>
        obtain ⟨k, fs⟩ := x
        cases hq : fs[j]? with
        | none => intro h2; simp [hq] at h2
        | some q =>
          intro h2
          simp only [hq] at h2
          obtain ⟨h4, h5⟩ := Bool.and_eq_true_iff.mp h2
          exact ⟨k, fs, q, rfl, hq, by simpa using h4, by simpa using h5⟩
  · unfold dv_isa at h3
    split at h3
    · rename_i y hy; exact ⟨y, hy⟩
    · cases h3
/-- a value as a number: a reference is its address -/
def dv_iv (v : Value) : Int := match v with
  | .int i => i.toInt
  | .long i => i.toInt
  | .ref b => (b : Int)
  | _ => -1
def dv_ad (v : Value) : Nat := match v with
  | .ref b => b
  | _ => 0
/-- the system's cells as numbers -/
def dv (G : th_G) (Γ : th_Ga) (H : Heap) : dV := fun A j z => if A < 0 ∨ z < 0 then 0 else match th_ro (Γ A.toNat).1 with
  | some (.inl (k, fs)) => (match fs[j]? with
    | some q => if q.1 = 4 then dv_iv (th_sl H (dv_ad (th_sl H A.toNat (G.1.2 k j))) z.toNat) else if z = 0 then dv_iv (th_sl H A.toNat (G.1.2 k j)) else 0
    | none => 0)
  | _ => 0
theorem dv_at {A : Int} {j r o k : Nat} {z : Int} {fs : List th_sp} {q : th_sp} (h0 : 0 ≤ A) (hz : 0 ≤ z) (ha : Γ A.toNat = (r, o)) (hr : th_ro r = some (.inl (k, fs))) (hq : fs[j]? = some q) : dv G Γ H A j z = if q.1 = 4 then dv_iv (th_sl H (dv_ad (th_sl H A.toNat (G.1.2 k j))) z.toNat) else if z = 0 then dv_iv (th_sl H A.toNat (G.1.2 k j)) else 0 := by
  unfold dv
  rw [if_neg (by omega), ha]
  simp only [hr, hq]
theorem dv_row {b r o rk j : Nat} {z : Int} (hI : th_I G Γ H) (hU : dv_U Γ) (hb : Γ b = (r, o)) (ho : dv_own r = some (rk, j)) (hz : 0 ≤ z) : dv G Γ H (o : Int) j z = dv_iv (th_sl H b z.toNat) := by
  obtain ⟨hg, hu⟩ := hU b r o rk j hb ho
  obtain ⟨⟨k, fs, q, hr, hq, q4, qr⟩, -⟩ := dv_ow2 ho
  rw [dv_at (A := (o : Int)) (r := rk) (o := 0) (k := k) (fs := fs) (q := q) (by omega) hz (by rw [Int.toNat_natCast]; exact hg) hr hq, if_pos q4]
  obtain ⟨q1, q2, q3⟩ := q
  simp only at q4 qr
  subst q4
  subst qr
  obtain ⟨b', e1, e2⟩ := th_fo hI hg hr hq
  have e3 := hu b' e2
  subst e3
  rw [Int.toNat_natCast, e1]
  rfl
theorem dv_sc {a r o k j : Nat} {fs : List th_sp} {q : th_sp} (ha : Γ a = (r, o)) (hr : th_ro r = some (.inl (k, fs))) (hq : fs[j]? = some q) (h4 : q.1 ≠ 4) : dv G Γ H (a : Int) j 0 = dv_iv (th_sl H a (G.1.2 k j)) := by
  rw [dv_at (A := (a : Int)) (r := r) (o := o) (by omega) (by omega) (by rw [Int.toNat_natCast]; exact ha) hr hq, if_neg h4, if_pos rfl, Int.toNat_natCast]
theorem dv_getI {a r o k j : Nat} {fs : List th_sp} {q : th_sp} {x : Int32} (ha : Γ a = (r, o)) (hr : th_ro r = some (.inl (k, fs))) (hq : fs[j]? = some q) (m : th_sl H a (G.1.2 k j) = .int x) (h4 : q.1 ≠ 4) : dv G Γ H (a : Int) j 0 = x.toInt := by
  rw [dv_sc ha hr hq h4, m]; rfl
theorem dv_getR {a r o k j : Nat} {fs : List th_sp} {q : th_sp} {b : Nat} (ha : Γ a = (r, o)) (hr : th_ro r = some (.inl (k, fs))) (hq : fs[j]? = some q) (m : th_sl H a (G.1.2 k j) = .ref b) (h4 : q.1 ≠ 4) : dv G Γ H (a : Int) j 0 = (b : Int) := by
  rw [dv_sc ha hr hq h4, m]; rfl
theorem dv_getQ {a r o k j : Nat} {fs : List th_sp} {q : th_sp} {v : Value} (ha : Γ a = (r, o)) (hr : th_ro r = some (.inl (k, fs))) (hq : fs[j]? = some q) (m : th_sl H a (G.1.2 k j) = v) (h4 : q.1 ≠ 4) : dv G Γ H (a : Int) j 0 = dv_iv v := by
  rw [dv_sc ha hr hq h4, m]
theorem dv_aldI {b r o rk j : Nat} {z : Int} {x : Int32} (hI : th_I G Γ H) (hU : dv_U Γ) (hb : Γ b = (r, o)) (ho : dv_own r = some (rk, j)) (m : th_sl H b z.toNat = .int x) (hz : 0 ≤ z) : dv G Γ H (o : Int) j z = x.toInt := by
  rw [dv_row hI hU hb ho hz, m]; rfl
theorem dv_aldL {b r o rk j : Nat} {z : Int} {x : Int64} (hI : th_I G Γ H) (hU : dv_U Γ) (hb : Γ b = (r, o)) (ho : dv_own r = some (rk, j)) (m : th_sl H b z.toNat = .long x) (hz : 0 ≤ z) : dv G Γ H (o : Int) j z = x.toInt := by
  rw [dv_row hI hU hb ho hz, m]; rfl
theorem dv_aldR {b r o rk j : Nat} {z : Int} {x : Nat} (hI : th_I G Γ H) (hU : dv_U Γ) (hb : Γ b = (r, o)) (ho : dv_own r = some (rk, j)) (m : th_sl H b z.toNat = .ref x) (hz : 0 ≤ z) : dv G Γ H (o : Int) j z = (x : Int) := by
  rw [dv_row hI hU hb ho hz, m]; rfl
/-- the row that a field holds, and whose it is -/
theorem dv_ptr {a r o k j : Nat} {fs : List th_sp} {q : th_sp} (hI : th_I G Γ H) (ha : Γ a = (r, o)) (hr : th_ro r = some (.inl (k, fs))) (hq : fs[j]? = some q) (h4 : q.1 = 4) : ∃ b : Nat, th_sl H a (G.1.2 k j) = .ref b ∧ Γ b = (q.2.1.toNat, a) := by
  obtain ⟨-, -, h⟩ := hI a r o _ ha hr
  have h5 := h j q hq
  unfold th_sat at h5
  rw [h4] at h5
  exact h5
theorem dv_ext {f g : dV} (h : ∀ (A : Int) (j : Nat) (z : Int), f A j z = g A j z) : f = g := funext fun A => funext fun j => funext fun z => h A j z
/-- what isn't an object has no numbers -/
theorem dv_no {A : Int} {j : Nat} {z : Int} (h : (A < 0 ∨ z < 0) ∨ ¬ ∃ r o k fs q, Γ A.toNat = (r, o) ∧ th_ro r = some (.inl (k, fs)) ∧ fs[j]? = some q) : dv G Γ H A j z = 0 := by
  unfold dv
  by_cases h0 : A < 0 ∨ z < 0
  · rw [if_pos h0]
  · rw [if_neg h0]
    have h1 := h.resolve_left h0
    cases hd : th_ro (Γ A.toNat).1 with
    | none => rfl
    | some d =>
      cases d with
      | inr y => rfl
      | inl x =>
        obtain ⟨k, fs⟩ := x
        cases hq : fs[j]? with
        | none => simp only [hq]
        | some q => exact absurd ⟨_, _, k, fs, q, rfl, hd, hq⟩ h1
theorem dv_cs (Γ : th_Ga) (A : Int) (j : Nat) (z : Int) : ((A < 0 ∨ z < 0) ∨ ¬ ∃ r o k fs q, Γ A.toNat = (r, o) ∧ th_ro r = some (.inl (k, fs)) ∧ fs[j]? = some q) ∨ (0 ≤ A ∧ 0 ≤ z ∧ ∃ r o k fs q, Γ A.toNat = (r, o) ∧ th_ro r = some (.inl (k, fs)) ∧ fs[j]? = some q) := by
  by_cases h0 : A < 0 ∨ z < 0
  · exact Or.inl (Or.inl h0)
  · by_cases h1 : ∃ r o k fs q, Γ A.toNat = (r, o) ∧ th_ro r = some (.inl (k, fs)) ∧ fs[j]? = some q
    · exact Or.inr ⟨by omega, by omega, h1⟩
    · exact Or.inl (Or.inr h1)
theorem dv_put {a r o k j : Nat} {fs : List th_sp} {q : th_sp} {v : Value} (hI1 : th_I G Γ H1) (ha : Γ a = (r, o)) (hr : th_ro r = some (.inl (k, fs))) (hq : fs[j]? = some q) (hap : ∀ x y, x < fs.length → y < fs.length → x ≠ y → G.1.2 k x ≠ G.1.2 k y) (hst : th_St H H1 a (G.1.2 k j) v) (h4 : q.1 ≠ 4) : dv G Γ H1 = dv_u (dv G Γ H) (a : Int) j 0 (dv_iv v) := by
  obtain ⟨-, s1, s2, s3, -⟩ := hst
  refine dv_ext fun A i z => ?_
  unfold dv_u
  rcases dv_cs Γ A i z with h | ⟨hA, hz, r', o', k', fs', q', g1, g2, g3⟩
  · rw [dv_no h]
    split
    · rename_i e
      obtain ⟨rfl, rfl, rfl⟩ := e
      rcases h with h | h
      · omega
      · exact absurd ⟨r, o, k, fs, q, by rw [Int.toNat_natCast]; exact ha, hr, hq⟩ h
    · rw [dv_no h]
  · rw [dv_at hA hz g1 g2 g3, dv_at hA hz g1 g2 g3]
    by_cases e : A = (a : Int)
    · subst e
      rw [Int.toNat_natCast] at g1 ⊢
      rw [ha] at g1
      cases g1
      rw [hr] at g2
      cases g2
      have li := (List.getElem?_eq_some_iff.mp g3).1
      have lj := (List.getElem?_eq_some_iff.mp hq).1
      by_cases w : i = j
      · subst w
        rw [hq] at g3
        cases g3
        rw [if_neg h4, if_neg h4, s1]
        by_cases hz0 : z = 0
        · rw [if_pos hz0, if_pos ⟨rfl, rfl, hz0⟩]
        · rw [if_neg hz0, if_neg hz0, if_neg (fun c => hz0 c.2.2)]
      · rw [if_neg (fun c : (a : Int) = (a : Int) ∧ i = j ∧ z = 0 => w c.2.1), s2 _ (hap i j li lj w)]
        by_cases w4 : q'.1 = 4
        · rw [if_pos w4, if_pos w4]
          obtain ⟨b, e1, e2⟩ := dv_ptr hI1 ha hr g3 w4
          rw [s2 _ (hap i j li lj w)] at e1
          obtain ⟨-, y, e3⟩ := dv_ow hr g3 w4
          have hne : b ≠ a := fun c => by
            subst c
            rw [ha] at e2
            have e4 := (Prod.mk.inj e2).1
            rw [← e4, hr] at e3
            cases e3
          rw [e1]
          show dv_iv (th_sl H1 b z.toNat) = dv_iv (th_sl H b z.toNat)
          rw [th_sl_kept (s3 b hne)]
        · rw [if_neg w4, if_neg w4]
    · rw [if_neg (fun c : A = (a : Int) ∧ i = j ∧ z = 0 => e c.1)]
      have hne : A.toNat ≠ a := fun c => e (by omega)
      rw [th_sl_kept (s3 _ hne)]
      by_cases w4 : q'.1 = 4
      · rw [if_pos w4, if_pos w4]
        obtain ⟨b, e1, e2⟩ := dv_ptr hI1 g1 g2 g3 w4
        rw [th_sl_kept (s3 _ hne)] at e1
        obtain ⟨-, y, e3⟩ := dv_ow g2 g3 w4
        have hnb : b ≠ a := fun c => by
          subst c
          rw [ha] at e2
          have e4 := (Prod.mk.inj e2).1
          rw [← e4, hr] at e3
          cases e3
        rw [e1]
        show dv_iv (th_sl H1 b z.toNat) = dv_iv (th_sl H b z.toNat)
        rw [th_sl_kept (s3 b hnb)]
      · rw [if_neg w4, if_neg w4]
theorem dv_putI {a r o k j : Nat} {fs : List th_sp} {q : th_sp} {x : Int32} {y : Int} (hI1 : th_I G Γ H1) (ha : Γ a = (r, o)) (hr : th_ro r = some (.inl (k, fs))) (hq : fs[j]? = some q) (hap : ∀ x y, x < fs.length → y < fs.length → x ≠ y → G.1.2 k x ≠ G.1.2 k y) (hst : th_St H H1 a (G.1.2 k j) (.int x)) (hx : x.toInt = y) (h4 : q.1 ≠ 4) : dv_u (dv G Γ H) (a : Int) j 0 y = dv G Γ H1 := by
  rw [dv_put hI1 ha hr hq hap hst h4, ← hx]; rfl
theorem dv_putR {a r o k j : Nat} {fs : List th_sp} {q : th_sp} {b : Nat} (hI1 : th_I G Γ H1) (ha : Γ a = (r, o)) (hr : th_ro r = some (.inl (k, fs))) (hq : fs[j]? = some q) (hap : ∀ x y, x < fs.length → y < fs.length → x ≠ y → G.1.2 k x ≠ G.1.2 k y) (hst : th_St H H1 a (G.1.2 k j) (.ref b)) (h4 : q.1 ≠ 4) : dv_u (dv G Γ H) (a : Int) j 0 (b : Int) = dv G Γ H1 := by
  rw [dv_put hI1 ha hr hq hap hst h4]; rfl
theorem dv_putN {a r o k j : Nat} {fs : List th_sp} {q : th_sp} (hI1 : th_I G Γ H1) (ha : Γ a = (r, o)) (hr : th_ro r = some (.inl (k, fs))) (hq : fs[j]? = some q) (hap : ∀ x y, x < fs.length → y < fs.length → x ≠ y → G.1.2 k x ≠ G.1.2 k y) (hst : th_St H H1 a (G.1.2 k j) .null) (h4 : q.1 ≠ 4) : dv_u (dv G Γ H) (a : Int) j 0 (-1) = dv G Γ H1 := by
  rw [dv_put hI1 ha hr hq hap hst h4]; rfl
theorem dv_putQ {a r o k j : Nat} {fs : List th_sp} {q : th_sp} {v : Value} (hI1 : th_I G Γ H1) (ha : Γ a = (r, o)) (hr : th_ro r = some (.inl (k, fs))) (hq : fs[j]? = some q) (hap : ∀ x y, x < fs.length → y < fs.length → x ≠ y → G.1.2 k x ≠ G.1.2 k y) (hst : th_St H H1 a (G.1.2 k j) v) (h4 : q.1 ≠ 4) : dv_u (dv G Γ H) (a : Int) j 0 (dv_iv v) = dv G Γ H1 := (dv_put hI1 ha hr hq hap hst h4).symm
/-- a change in one row alone: of what field of what object, at what place -/
theorem dv_rows {b r o rk j : Nat} (hI1 : th_I G Γ H1) (hU : dv_U Γ) (hb : Γ b = (r, o)) (ho : dv_own r = some (rk, j)) (oq : ∀ q, q ≠ b → H1[q]? = H[q]?) {f : dV} (hf : ∀ z : Int, 0 ≤ z → f (o : Int) j z = dv_iv (th_sl H1 b z.toNat)) (hg : ∀ (A : Int) (i : Nat) (z : Int), ¬ (A = (o : Int) ∧ i = j ∧ 0 ≤ z) → f A i z = dv G Γ H A i z) : f = dv G Γ H1 := by
  refine dv_ext fun A i z => ?_
  obtain ⟨hgo, hu⟩ := hU b r o rk j hb ho
  obtain ⟨⟨k, fs, q, hr, hq, q4, qr⟩, ya, hra⟩ := dv_ow2 ho
  by_cases e : A = (o : Int) ∧ i = j ∧ 0 ≤ z
  · obtain ⟨rfl, rfl, hz⟩ := e
    rw [hf z hz, dv_row hI1 hU hb ho hz]
  · rw [hg A i z e]
    rcases dv_cs Γ A i z with h | ⟨hA, hz, r', o', k', fs', q', g1, g2, g3⟩
    · rw [dv_no h, dv_no h]
    · rw [dv_at hA hz g1 g2 g3, dv_at hA hz g1 g2 g3]
      have hne : A.toNat ≠ b := fun c => by
        rw [c, hb] at g1
        cases g1
        rw [hra] at g2
        cases g2
      rw [th_sl_kept (oq _ hne)]
      by_cases w4 : q'.1 = 4
      · rw [if_pos w4, if_pos w4]
        obtain ⟨b', e1, e2⟩ := dv_ptr hI1 g1 g2 g3 w4
        rw [th_sl_kept (oq _ hne)] at e1
        have hnb : b' ≠ b := fun c => by
          subst c
          rw [hb] at e2
          obtain ⟨e3, e4⟩ := Prod.mk.inj e2
          have e5 := (dv_ow g2 g3 w4).1
          rw [← e3, ho] at e5
          obtain ⟨e6, e7⟩ := Prod.mk.inj (Option.some.inj e5)
          exact e ⟨by omega, e7.symm, hz⟩
        rw [e1]
        show dv_iv (th_sl H b' z.toNat) = dv_iv (th_sl H1 b' z.toNat)
        rw [th_sl_kept (oq b' hnb)]
      · rw [if_neg w4, if_neg w4]
theorem dv_sto {b r o rk j : Nat} {i : Int} {v : Value} (hI : th_I G Γ H) (hI1 : th_I G Γ H1) (hU : dv_U Γ) (hb : Γ b = (r, o)) (ho : dv_own r = some (rk, j)) (hst : th_St H H1 b i.toNat v) (h0 : 0 ≤ i) : dv_u (dv G Γ H) (o : Int) j i (dv_iv v) = dv G Γ H1 := by
  obtain ⟨-, s1, s2, s3, -⟩ := hst
  refine dv_rows hI1 hU hb ho s3 (fun z hz => ?_) (fun A k z h => ?_)
  · unfold dv_u
    by_cases e : z = i
    · rw [if_pos ⟨rfl, rfl, e⟩, e, s1]
    · rw [if_neg (fun c => e c.2.2), dv_row hI hU hb ho hz, s2 _ (by omega)]
  · unfold dv_u
    rw [if_neg (fun c => h ⟨c.1, c.2.1, by omega⟩)]
theorem dv_stoI {b r o rk j : Nat} {i y : Int} {x : Int32} (hI : th_I G Γ H) (hI1 : th_I G Γ H1) (hU : dv_U Γ) (hb : Γ b = (r, o)) (ho : dv_own r = some (rk, j)) (hst : th_St H H1 b i.toNat (.int x)) (hx : x.toInt = y) (h0 : 0 ≤ i) : dv_u (dv G Γ H) (o : Int) j i y = dv G Γ H1 := by
  rw [← dv_sto hI hI1 hU hb ho hst h0, ← hx]; rfl
theorem dv_stoL {b r o rk j : Nat} {i y : Int} {x : Int64} (hI : th_I G Γ H) (hI1 : th_I G Γ H1) (hU : dv_U Γ) (hb : Γ b = (r, o)) (ho : dv_own r = some (rk, j)) (hst : th_St H H1 b i.toNat (.long x)) (hx : x.toInt = y) (h0 : 0 ≤ i) : dv_u (dv G Γ H) (o : Int) j i y = dv G Γ H1 := by
  rw [← dv_sto hI hI1 hU hb ho hst h0, ← hx]; rfl
theorem dv_cpy {a r0 o0 rk0 j0 b r o rk j : Nat} {x y n : Int} (hI : th_I G Γ H) (hI1 : th_I G Γ H1) (hU : dv_U Γ) (ha : Γ a = (r0, o0)) (ha0 : dv_own r0 = some (rk0, j0)) (hb : Γ b = (r, o)) (ho : dv_own r = some (rk, j)) (hcp : th_Cp H H1 a b x.toNat y.toNat n.toNat) (hx : 0 ≤ x) (hy : 0 ≤ y) (hn : 0 ≤ n) : dv_c (dv G Γ H) (o0 : Int) j0 x (o : Int) j y n = dv G Γ H1 := by
  obtain ⟨-, s3, s2, -⟩ := hcp
  refine dv_rows hI1 hU hb ho s3 (fun z hz => ?_) (fun A k z h => ?_)
  · unfold dv_c
    rw [s2]
    unfold va_cpy
    by_cases e : y ≤ z ∧ z < y + n
    · rw [if_pos ⟨rfl, rfl, e⟩, if_pos (by omega), dv_row hI hU ha ha0 (by omega)]
      congr 2
      omega
    · rw [if_neg (fun c => e c.2.2), if_neg (by omega), dv_row hI hU hb ho hz]
  · unfold dv_c
    rw [if_neg (fun c => h ⟨c.1, c.2.1, by omega⟩)]
/-- what no store has reached -/
theorem dv_F {L : List (Nat × Nat)} {A : Int} {j a r o k : Nat} {z : Int} {fs : List th_sp} {q : th_sp} (hI : th_I G Γ H) (hI1 : th_I G Γ H1) (hF : th_F G Γ L H H1) (hA : A = (a : Int)) (ha : Γ a = (r, o)) (hr : th_ro r = some (.inl (k, fs))) (hq : fs[j]? = some q) (h1 : th_in L r j = false) (h2 : q.1 = 4 → th_in L q.2.1.toNat 0 = false) : dv G Γ H1 A j z = dv G Γ H A j z := by
  subst hA
  by_cases hz : 0 ≤ z
  · have ha' : Γ ((a : Int)).toNat = (r, o) := by rw [Int.toNat_natCast]; exact ha
    have hj := (List.getElem?_eq_some_iff.mp hq).1
    rw [dv_at (by omega) hz ha' hr hq, dv_at (by omega) hz ha' hr hq, Int.toNat_natCast, th_F_o hF ha hr hj h1]
    by_cases w4 : q.1 = 4
    · rw [if_pos w4, if_pos w4]
      obtain ⟨b, e1, e2⟩ := dv_ptr hI ha hr hq w4
      obtain ⟨-, y, e3⟩ := dv_ow hr hq w4
      rw [e1]
      show dv_iv (th_sl H1 b z.toNat) = dv_iv (th_sl H b z.toNat)
      rw [th_F_a hF e2 e3 (h2 w4)]
    · rw [if_neg w4, if_neg w4]
  · rw [dv_no (Or.inl (by omega)), dv_no (Or.inl (by omega))]
end DVM
section TRE
variable {p : Program} {l : Launch} {e : Env} {R : Room} {s : State} {m : MethodId} {args : Array Value} {below : List Frame} {meth : Method} {c : Code} {H : Heap} {locs : List Loc} {cells slots : Nat} {Q : State → Prop}
variable {cc : ByteArray} {pc : Nat} {ls : Array Slot} {rest : List Value}
theorem tr_iincE {i nL k : Nat} {n a : Int} {x : Int32} {lv : List (Nat × Value)} (lv' : Int32 → List (Nat × Value)) (hexec : p.tables.exec = Jvm.exec) (hb : c.code = cc) (hdg : decode cc pc = .ok (.iinc i n, 3)) (h : lv_has ls nL lv) (hk : lv[k]? = some (i, .int x)) (ha : x.toInt = a) (hn : i < nL) (hl : ∀ z : Int32, (i, Value.int z) :: lv.filter (fun q => !(q.1 == i) && !(q.1 + 1 == i && q.2.category == 2)) = lv' z)
    (kk : ∀ (z : Int32) (ls' : Array Slot), dv_add a n = z.toInt → lv_has ls' nL (lv' z) → W p l e R s m args below meth c H locs cells slots Q (F0 m (pc + 3) ls' rest)) : W p l e R s m args below meth c H locs cells slots Q (F0 m pc ls rest) :=
  lv_iinc hexec hb hdg h hk rfl hn (hl (x + Int32.ofInt n)) (fun ls' hl' => kk _ ls' (by subst ha; unfold dv_add; rw [Int32.ofInt_toInt]) hl')
theorem ti_cmp2 (x y : Int64) : ((lg_cmp x y).toInt < 0 ↔ x.toInt < y.toInt) ∧ ((lg_cmp x y).toInt = 0 ↔ x.toInt = y.toInt) := by
  unfold lg_cmp
  have h0 : (0 : Int32).toInt = 0 := rfl
  have h1 : (1 : Int32).toInt = 1 := rfl
  have h2 : (-1 : Int32).toInt = -1 := rfl
  split
  · rename_i h
    have := Int64.lt_iff_toInt_lt.mp h
    omega
  · rename_i h
    have h3 := mt Int64.lt_iff_toInt_lt.mpr h
    split
    · rename_i h
      subst h
      omega
    · rename_i h
      have h4 : x.toInt ≠ y.toInt := fun q => h (Int64.toInt_inj.mp q)
      omega
theorem tr_lcmp2 (hexec : p.tables.exec = Jvm.exec) (hb : c.code = cc) {x y : Int64} (hdg : decode cc pc = .ok (.lcmp, 1))
    (kk : ∀ z : Int32, (-1 ≤ z.toInt ∧ z.toInt ≤ 1) → (z.toInt = 0 ↔ x = y) → ((z.toInt < 0 ↔ x.toInt < y.toInt) ∧ (z.toInt = 0 ↔ x.toInt = y.toInt)) → W p l e R s m args below meth c H locs cells slots Q (F0 m (pc + 1) ls (.int z :: rest))) : W p l e R s m args below meth c H locs cells slots Q (F0 m pc ls (.long y :: .long x :: rest)) :=
  W.lcmp hexec hb hdg (kk _ (ti_cmp x y).1 (ti_cmp x y).2 (ti_cmp2 x y))
end TRE
