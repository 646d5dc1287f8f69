section DVP
/-- a state as numbers: object, field, place in the field's row -/
abbrev dV : Type := Int → Nat → Int → Int
abbrev dR : Type := dV × Int
abbrev dP : Type := Int × Unit
def dv_u (V : dV) (a : Int) (j : Nat) (i x : Int) : dV := fun b k z => if b = a ∧ k = j ∧ z = i then x else V b k z
/-- n places of a row copied -/
def dv_c (V : dV) (oa : Int) (ja : Nat) (sp ob : Int) (jb : Nat) (dp n : Int) : dV := fun b k z => if b = ob ∧ k = jb ∧ dp ≤ z ∧ z < dp + n then V oa ja (sp + (z - dp)) else V b k z
def dv_b {α β : Type} (e : α) (k : α → β) : β := k e
def dv_b2 {α β γ : Type} (p : α × β) (k : α → β → γ) : γ := k p.1 p.2
theorem dv_bn {α β : Type} {e x : α} {k : α → β} (h : e = x) : dv_b e k = k x := by rw [h]; rfl
theorem dv_bn2 {α β γ : Type} {p : α × β} {x : α} {y : β} {k : α → β → γ} (h : p = (x, y)) : dv_b2 p k = k x y := by rw [h]; rfl
def dv_it {σ ρ : Type} (b : σ → Sum σ ρ) (s : σ) : Nat → Sum σ ρ
  | 0 => .inl s
  | n + 1 => match dv_it b s n with
    | .inl t => b t
    | .inr r => .inr r
/-- a loop: b says how it goes on, or what all gives -/
noncomputable def dv_lp {σ ρ : Type} [Nonempty ρ] (b : σ → Sum σ ρ) (s : σ) : ρ := Classical.epsilon (fun r => ∃ n : Nat, dv_it b s n = .inr r)
noncomputable def dv_k {σ ρ : Type} [Nonempty ρ] (b : σ → Sum σ ρ) (q : Sum σ ρ) : ρ := match q with
  | .inl t => dv_lp b t
  | .inr r => r
theorem dv_it_s {σ ρ : Type} {b : σ → Sum σ ρ} {s t : σ} (h : b s = .inl t) (n : Nat) : dv_it b s (n + 1) = dv_it b t n := by
  induction n with
  | zero => exact h
  | succ n ih =>
    show (match dv_it b s (n + 1) with | .inl t => b t | .inr r => .inr r) = _
    rw [ih]
    rfl
theorem dv_lp_s {σ ρ : Type} [Nonempty ρ] {b : σ → Sum σ ρ} {s t : σ} (h : b s = .inl t) : dv_lp b s = dv_lp b t := by
  unfold dv_lp
  congr 1
  funext r
  apply propext
  constructor
  · intro ⟨n, hn⟩
    cases n with
    | zero => cases hn
    | succ n => exact ⟨n, by rw [← dv_it_s h]; exact hn⟩
  · intro ⟨n, hn⟩
    exact ⟨n + 1, by rw [dv_it_s h]; exact hn⟩
theorem dv_it_e {σ ρ : Type} {b : σ → Sum σ ρ} {s : σ} {r : ρ} (h : b s = .inr r) (n : Nat) : dv_it b s (n + 1) = .inr r := by
  induction n with
  | zero => exact h
  | succ n ih =>
    show (match dv_it b s (n + 1) with | .inl t => b t | .inr r => .inr r) = _
    rw [ih]
theorem dv_lp_e {σ ρ : Type} [Nonempty ρ] {b : σ → Sum σ ρ} {s : σ} {r : ρ} (h : b s = .inr r) : dv_lp b s = r := by
  have hx : ∃ r : ρ, ∃ n : Nat, dv_it b s n = .inr r := ⟨r, 1, dv_it_e h 0⟩
  obtain ⟨n, hn⟩ := Classical.epsilon_spec hx
  show Classical.epsilon (fun r => ∃ n : Nat, dv_it b s n = .inr r) = r
  cases n with
  | zero => cases hn
  | succ n =>
    rw [dv_it_e h] at hn
    exact (Sum.inr.inj hn).symm
theorem dv_lp_eq {σ ρ : Type} [Nonempty ρ] {b : σ → Sum σ ρ} {s : σ} : dv_lp b s = dv_k b (b s) := by
  cases h : b s with
  | inl t => exact dv_lp_s h
  | inr r => exact dv_lp_e h
theorem dv_kr {σ ρ : Type} [Nonempty ρ] {b : σ → Sum σ ρ} {x : ρ} : dv_k b (.inr x) = x := rfl
theorem dv_kl {σ ρ : Type} [Nonempty ρ] {b : σ → Sum σ ρ} {s : σ} : dv_k b (.inl s) = dv_lp b s := rfl
def dv_pre {α : Type} (z : α) (f : Nat → α) (d : Nat) : α := match d with
  | 0 => z
  | d + 1 => f d
theorem dv_pre_s {α : Type} {z : α} {f : Nat → α} {d d' : Nat} (h : d = d' + 1) : dv_pre z f d = f d' := by rw [h]; rfl
def dv_z : dR := (fun _ _ _ => 0, 0)
def dv_zp : dP := (0, ())

def dv_add (a b : Int) : Int := ((Int32.ofInt a) + (Int32.ofInt b)).toInt
theorem dv_add_e {x y z : Int32} {a b : Int} (ha : x.toInt = a) (hb : y.toInt = b) (e : z = x + y) : dv_add a b = z.toInt := by
  subst ha; subst hb; subst e; unfold dv_add; rw [Int32.ofInt_toInt, Int32.ofInt_toInt]
def dv_sub (a b : Int) : Int := ((Int32.ofInt a) - (Int32.ofInt b)).toInt
theorem dv_sub_e {x y z : Int32} {a b : Int} (ha : x.toInt = a) (hb : y.toInt = b) (e : z = x - y) : dv_sub a b = z.toInt := by
  subst ha; subst hb; subst e; unfold dv_sub; rw [Int32.ofInt_toInt, Int32.ofInt_toInt]
def dv_mul (a b : Int) : Int := ((Int32.ofInt a) * (Int32.ofInt b)).toInt
theorem dv_mul_e {x y z : Int32} {a b : Int} (ha : x.toInt = a) (hb : y.toInt = b) (e : z = x * y) : dv_mul a b = z.toInt := by
  subst ha; subst hb; subst e; unfold dv_mul; rw [Int32.ofInt_toInt, Int32.ofInt_toInt]
def dv_div (a b : Int) : Int := ((Int32.ofInt a) / (Int32.ofInt b)).toInt
theorem dv_div_e {x y z : Int32} {a b : Int} (ha : x.toInt = a) (hb : y.toInt = b) (e : z = x / y) : dv_div a b = z.toInt := by
  subst ha; subst hb; subst e; unfold dv_div; rw [Int32.ofInt_toInt, Int32.ofInt_toInt]
def dv_rem (a b : Int) : Int := ((Int32.ofInt a) - (Int32.ofInt a) / (Int32.ofInt b) * (Int32.ofInt b)).toInt
theorem dv_rem_e {x y z : Int32} {a b : Int} (ha : x.toInt = a) (hb : y.toInt = b) (e : z = x - x / y * y) : dv_rem a b = z.toInt := by
  subst ha; subst hb; subst e; unfold dv_rem; rw [Int32.ofInt_toInt, Int32.ofInt_toInt]
def dv_and (a b : Int) : Int := ((Int32.ofInt a) &&& (Int32.ofInt b)).toInt
theorem dv_and_e {x y z : Int32} {a b : Int} (ha : x.toInt = a) (hb : y.toInt = b) (e : z = x &&& y) : dv_and a b = z.toInt := by
  subst ha; subst hb; subst e; unfold dv_and; rw [Int32.ofInt_toInt, Int32.ofInt_toInt]
def dv_or (a b : Int) : Int := ((Int32.ofInt a) ||| (Int32.ofInt b)).toInt
theorem dv_or_e {x y z : Int32} {a b : Int} (ha : x.toInt = a) (hb : y.toInt = b) (e : z = x ||| y) : dv_or a b = z.toInt := by
  subst ha; subst hb; subst e; unfold dv_or; rw [Int32.ofInt_toInt, Int32.ofInt_toInt]
def dv_xor (a b : Int) : Int := ((Int32.ofInt a) ^^^ (Int32.ofInt b)).toInt
theorem dv_xor_e {x y z : Int32} {a b : Int} (ha : x.toInt = a) (hb : y.toInt = b) (e : z = x ^^^ y) : dv_xor a b = z.toInt := by
  subst ha; subst hb; subst e; unfold dv_xor; rw [Int32.ofInt_toInt, Int32.ofInt_toInt]
def dv_shl (a b : Int) : Int := ((Int32.ofInt a) <<< ((Int32.ofInt b) &&& 31)).toInt
theorem dv_shl_e {x y z : Int32} {a b : Int} (ha : x.toInt = a) (hb : y.toInt = b) (e : z = x <<< (y &&& 31)) : dv_shl a b = z.toInt := by
  subst ha; subst hb; subst e; unfold dv_shl; rw [Int32.ofInt_toInt, Int32.ofInt_toInt]
def dv_shr (a b : Int) : Int := ((Int32.ofInt a) >>> ((Int32.ofInt b) &&& 31)).toInt
theorem dv_shr_e {x y z : Int32} {a b : Int} (ha : x.toInt = a) (hb : y.toInt = b) (e : z = x >>> (y &&& 31)) : dv_shr a b = z.toInt := by
  subst ha; subst hb; subst e; unfold dv_shr; rw [Int32.ofInt_toInt, Int32.ofInt_toInt]
def dv_ushr (a b : Int) : Int := (((Int32.ofInt a).toUInt32 >>> ((Int32.ofInt b).toUInt32 &&& Int32.toUInt32 31)).toInt32).toInt
theorem dv_ushr_e {x y z : Int32} {a b : Int} (ha : x.toInt = a) (hb : y.toInt = b) (e : z = (x.toUInt32 >>> (y.toUInt32 &&& Int32.toUInt32 31)).toInt32) : dv_ushr a b = z.toInt := by
  subst ha; subst hb; subst e; unfold dv_ushr; rw [Int32.ofInt_toInt, Int32.ofInt_toInt]
def dv_neg (a : Int) : Int := (-(Int32.ofInt a)).toInt
theorem dv_neg_e {x z : Int32} {a : Int} (ha : x.toInt = a) (e : z = -x) : dv_neg a = z.toInt := by
  subst ha; subst e; unfold dv_neg; rw [Int32.ofInt_toInt]
def dv_i2b (a : Int) : Int := ((Int32.ofInt a).toInt8.toInt32).toInt
theorem dv_i2b_e {x z : Int32} {a : Int} (ha : x.toInt = a) (e : z = x.toInt8.toInt32) : dv_i2b a = z.toInt := by
  subst ha; subst e; unfold dv_i2b; rw [Int32.ofInt_toInt]
def dv_i2s (a : Int) : Int := ((Int32.ofInt a).toInt16.toInt32).toInt
theorem dv_i2s_e {x z : Int32} {a : Int} (ha : x.toInt = a) (e : z = x.toInt16.toInt32) : dv_i2s a = z.toInt := by
  subst ha; subst e; unfold dv_i2s; rw [Int32.ofInt_toInt]
def dv_i2c (a : Int) : Int := (((Int32.ofInt a).toUInt32 % 65536).toInt32).toInt
theorem dv_i2c_e {x z : Int32} {a : Int} (ha : x.toInt = a) (e : z = (x.toUInt32 % 65536).toInt32) : dv_i2c a = z.toInt := by
  subst ha; subst e; unfold dv_i2c; rw [Int32.ofInt_toInt]
def dv_ladd (a b : Int) : Int := ((Int64.ofInt a) + (Int64.ofInt b)).toInt
theorem dv_ladd_e {x y z : Int64} {a b : Int} (ha : x.toInt = a) (hb : y.toInt = b) (e : z = x + y) : dv_ladd a b = z.toInt := by
  subst ha; subst hb; subst e; unfold dv_ladd; rw [Int64.ofInt_toInt, Int64.ofInt_toInt]
def dv_lsub (a b : Int) : Int := ((Int64.ofInt a) - (Int64.ofInt b)).toInt
theorem dv_lsub_e {x y z : Int64} {a b : Int} (ha : x.toInt = a) (hb : y.toInt = b) (e : z = x - y) : dv_lsub a b = z.toInt := by
  subst ha; subst hb; subst e; unfold dv_lsub; rw [Int64.ofInt_toInt, Int64.ofInt_toInt]
def dv_lmul (a b : Int) : Int := ((Int64.ofInt a) * (Int64.ofInt b)).toInt
theorem dv_lmul_e {x y z : Int64} {a b : Int} (ha : x.toInt = a) (hb : y.toInt = b) (e : z = x * y) : dv_lmul a b = z.toInt := by
  subst ha; subst hb; subst e; unfold dv_lmul; rw [Int64.ofInt_toInt, Int64.ofInt_toInt]
def dv_ldiv (a b : Int) : Int := ((Int64.ofInt a) / (Int64.ofInt b)).toInt
theorem dv_ldiv_e {x y z : Int64} {a b : Int} (ha : x.toInt = a) (hb : y.toInt = b) (e : z = x / y) : dv_ldiv a b = z.toInt := by
  subst ha; subst hb; subst e; unfold dv_ldiv; rw [Int64.ofInt_toInt, Int64.ofInt_toInt]
def dv_lrem (a b : Int) : Int := ((Int64.ofInt a) - (Int64.ofInt a) / (Int64.ofInt b) * (Int64.ofInt b)).toInt
theorem dv_lrem_e {x y z : Int64} {a b : Int} (ha : x.toInt = a) (hb : y.toInt = b) (e : z = x - x / y * y) : dv_lrem a b = z.toInt := by
  subst ha; subst hb; subst e; unfold dv_lrem; rw [Int64.ofInt_toInt, Int64.ofInt_toInt]
def dv_land (a b : Int) : Int := ((Int64.ofInt a) &&& (Int64.ofInt b)).toInt
theorem dv_land_e {x y z : Int64} {a b : Int} (ha : x.toInt = a) (hb : y.toInt = b) (e : z = x &&& y) : dv_land a b = z.toInt := by
  subst ha; subst hb; subst e; unfold dv_land; rw [Int64.ofInt_toInt, Int64.ofInt_toInt]
def dv_lor (a b : Int) : Int := ((Int64.ofInt a) ||| (Int64.ofInt b)).toInt
theorem dv_lor_e {x y z : Int64} {a b : Int} (ha : x.toInt = a) (hb : y.toInt = b) (e : z = x ||| y) : dv_lor a b = z.toInt := by
  subst ha; subst hb; subst e; unfold dv_lor; rw [Int64.ofInt_toInt, Int64.ofInt_toInt]
def dv_lxor (a b : Int) : Int := ((Int64.ofInt a) ^^^ (Int64.ofInt b)).toInt
theorem dv_lxor_e {x y z : Int64} {a b : Int} (ha : x.toInt = a) (hb : y.toInt = b) (e : z = x ^^^ y) : dv_lxor a b = z.toInt := by
  subst ha; subst hb; subst e; unfold dv_lxor; rw [Int64.ofInt_toInt, Int64.ofInt_toInt]
def dv_lshl (a b : Int) : Int := ((Int64.ofInt a) <<< ((Int32.ofInt b).toInt64 &&& 63)).toInt
theorem dv_lshl_e {x z : Int64} {y : Int32} {a b : Int} (ha : x.toInt = a) (hb : y.toInt = b) (e : z = x <<< (y.toInt64 &&& 63)) : dv_lshl a b = z.toInt := by
  subst ha; subst hb; subst e; unfold dv_lshl; rw [Int64.ofInt_toInt, Int32.ofInt_toInt]
def dv_lshr (a b : Int) : Int := ((Int64.ofInt a) >>> ((Int32.ofInt b).toInt64 &&& 63)).toInt
theorem dv_lshr_e {x z : Int64} {y : Int32} {a b : Int} (ha : x.toInt = a) (hb : y.toInt = b) (e : z = x >>> (y.toInt64 &&& 63)) : dv_lshr a b = z.toInt := by
  subst ha; subst hb; subst e; unfold dv_lshr; rw [Int64.ofInt_toInt, Int32.ofInt_toInt]
def dv_lushr (a b : Int) : Int := (((Int64.ofInt a).toUInt64 >>> ((Int32.ofInt b).toInt64.toUInt64 &&& Int64.toUInt64 63)).toInt64).toInt
theorem dv_lushr_e {x z : Int64} {y : Int32} {a b : Int} (ha : x.toInt = a) (hb : y.toInt = b) (e : z = (x.toUInt64 >>> (y.toInt64.toUInt64 &&& Int64.toUInt64 63)).toInt64) : dv_lushr a b = z.toInt := by
  subst ha; subst hb; subst e; unfold dv_lushr; rw [Int64.ofInt_toInt, Int32.ofInt_toInt]
theorem dv_i2l_e {x : Int32} {y : Int64} {a : Int} (ha : x.toInt = a) (e : y = x.toInt64) : a = y.toInt := by
  subst ha; subst e; exact (Int32.toInt_toInt64 x).symm
def dv_l2i (a : Int) : Int := ((Int64.ofInt a).toInt32).toInt
theorem dv_l2i_e {x : Int64} {z : Int32} {a : Int} (ha : x.toInt = a) (e : z = x.toInt32) : dv_l2i a = z.toInt := by
  subst ha; subst e; unfold dv_l2i; rw [Int64.ofInt_toInt]
def dv_lcmp (a b : Int) : Int := if a < b then -1 else if a = b then 0 else 1
theorem dv_lcmp_e {x y : Int64} {z : Int32} {a b : Int} (ha : x.toInt = a) (hb : y.toInt = b) (h : -1 ≤ z.toInt ∧ z.toInt ≤ 1) (i : (z.toInt < 0 ↔ x.toInt < y.toInt) ∧ (z.toInt = 0 ↔ x.toInt = y.toInt)) : dv_lcmp a b = z.toInt := by
  subst ha; subst hb; unfold dv_lcmp
  split
  · omega
  · split <;> omega
theorem dv_min_e {z a b : Int} (e : z ≤ a ∧ z ≤ b ∧ (z = a ∨ z = b)) : min a b = z := by omega
theorem dv_max_e {z a b : Int} (e : a ≤ z ∧ b ≤ z ∧ (z = a ∨ z = b)) : max a b = z := by omega
end DVP
