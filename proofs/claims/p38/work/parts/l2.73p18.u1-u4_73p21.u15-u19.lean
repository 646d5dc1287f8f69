section
section QVA
variable {C C' : Int → Int → Prop} {S S' : Nat → Prop} {w h r x y s : Int} {n c d k : Nat} {sd : Nat → Int} {pr : Nat → Int → Int} {ag : Nat → Int → Prop}
/-- each cell of the hall is covered -/
def ful (C : Int → Int → Prop) (w h : Int) : Prop := ∀ px py, 0 ≤ px → px < w → 0 ≤ py → py < h → C px py
theorem ful_c (e : ∀ px py, 0 ≤ px → px < w → 0 ≤ py → py < h → (C px py ↔ C' px py)) : ful C w h ↔ ful C' w h := ⟨fun k px py a b c d => (e px py a b c d).mp (k px py a b c d), fun k px py a b c d => (e px py a b c d).mpr (k px py a b c d)⟩
theorem fb1_c (e : ∀ px py, 0 ≤ px → px < w → 0 ≤ py → py < h → (C px py ↔ C' px py)) (k : fb1 C w h r) : fb1 C' w h r := by
  rcases k with ⟨rfl, k1⟩ | ⟨px, py, rfl, ⟨x0, x1⟩, ⟨y0, y1⟩, n1, k1⟩
  · exact Or.inl ⟨rfl, fun px py a b c d => (e px py a b c d).mp (k1 px py a b c d)⟩
  · exact Or.inr ⟨px, py, rfl, ⟨x0, x1⟩, ⟨y0, y1⟩, fun q => n1 ((e px py x0 x1 y0 y1).mpr q), fun qx qy a b c d z => (e qx qy a b c d).mp (k1 qx qy a b c d z)⟩
/-- there is a first bare cell, or all is covered -/
theorem fb1_ex (w12 : w ≤ 12) : ∃ r, fb1 C w h r := by
  by_cases f : ful C w h
  · exact ⟨-1, Or.inl ⟨rfl, f⟩⟩
  · have key : ∀ m : Nat, (∃ px py, (0 ≤ px ∧ px < w) ∧ (0 ≤ py ∧ py < h) ∧ ¬ C px py ∧ 12 * py + px < m) → ∃ r, fb1 C w h r := by
      intro m
      induction m with
      | zero => rintro ⟨px, py, a, b, -, c⟩; omega
      | succ m ih =>
        rintro ⟨px, py, a, b, c, e⟩
        by_cases g : ∃ qx qy, (0 ≤ qx ∧ qx < w) ∧ (0 ≤ qy ∧ qy < h) ∧ ¬ C qx qy ∧ 12 * qy + qx < m
        · exact ih g
        · refine ⟨12 * py + px, Or.inr ⟨px, py, rfl, a, b, c, fun qx qy a0 a1 b0 b1 z => Classical.byContradiction (fun q => g ⟨qx, qy, ⟨a0, a1⟩, ⟨b0, b1⟩, q, ?_⟩)⟩⟩
          omega
    refine Classical.byContradiction (fun g => f (fun px py a b c e => Classical.byContradiction (fun q => g (key (12 * py + px + 1).toNat ⟨px, py, ⟨a, b⟩, ⟨c, e⟩, q, by omega⟩))))
noncomputable def fbC (C : Int → Int → Prop) (w h : Int) : Int := Classical.epsilon (fun r => fb1 C w h r)
theorem fbC_is (w12 : w ≤ 12) (k : fb1 C w h r) : fbC C w h = r := fb1_u (Classical.epsilon_spec (fb1_ex (C := C) (w := w) (h := h) w12)) k
theorem fbC_c (w12 : w ≤ 12) (e : ∀ px py, 0 ≤ px → px < w → 0 ≤ py → py < h → (C px py ↔ C' px py)) : fbC C w h = fbC C' w h := by
  obtain ⟨r, k⟩ := fb1_ex (C := C) (w := w) (h := h) w12
  rw [fbC_is w12 k, fbC_is w12 (fb1_c e k)]
theorem fb1_ful (k : fb1 C w h r) : ful C w h ↔ r = -1 := by
  rcases k with ⟨rfl, k1⟩ | ⟨px, py, rfl, ⟨x0, x1⟩, ⟨y0, y1⟩, n1, k1⟩
  · exact ⟨fun _ => rfl, fun _ => k1⟩
  · exact ⟨fun q => absurd (q px py x0 x1 y0 y1) n1, fun q => by omega⟩
/-- a square more is covered -/
def cvs (C : Int → Int → Prop) (s x y : Int) : Int → Int → Prop := fun px py => C px py ∨ ((x ≤ px ∧ px < x + s) ∧ y ≤ py ∧ py < y + s)
def wo1 (S : Nat → Prop) (c : Nat) : Nat → Prop := fun i => S i ∧ i ≠ c
/-- the carpet c can come to the first bare cell -/
def okc (sd : Nat → Int) (pr : Nat → Int → Int) (ag : Nat → Int → Prop) (w h : Int) (C : Int → Int → Prop) (S : Nat → Prop) (c : Nat) : Prop := S c ∧ pr c (fbC C w h) ≠ -1 ∧ (fbC C w h % 12 + sd c ≤ w ∧ fbC C w h / 12 + sd c ≤ h ∧ fpl C (sd c) (fbC C w h % 12) (fbC C w h / 12)) ∧ ag c (fbC C w h)
def nxC (sd : Nat → Int) (w h : Int) (C : Int → Int → Prop) (c : Nat) : Int → Int → Prop := cvs C (sd c) (fbC C w h % 12) (fbC C w h / 12)
theorem okc_c (w12 : w ≤ 12) (e : ∀ px py, 0 ≤ px → px < w → 0 ≤ py → py < h → (C px py ↔ C' px py)) (eS : S c ↔ S' c) (hf : ¬ ful C w h) : okc sd pr ag w h C S c ↔ okc sd pr ag w h C' S' c := by
  have e1 := fbC_c w12 e
  obtain ⟨r, k⟩ := fb1_ex (C := C) (w := w) (h := h) w12
  have er := fbC_is w12 k
  have hr : 0 ≤ fbC C w h % 12 ∧ 0 ≤ fbC C w h / 12 := by
    rcases k with ⟨rfl, k1⟩ | ⟨px, py, rfl, ⟨x0, x1⟩, ⟨y0, y1⟩, -⟩
    · exact absurd k1 hf
    · rw [er]; omega
  unfold okc
  rw [← e1, eS]
  have f1 : (fbC C w h % 12 + sd c ≤ w ∧ fbC C w h / 12 + sd c ≤ h ∧ fpl C (sd c) (fbC C w h % 12) (fbC C w h / 12)) ↔ (fbC C w h % 12 + sd c ≤ w ∧ fbC C w h / 12 + sd c ≤ h ∧ fpl C' (sd c) (fbC C w h % 12) (fbC C w h / 12)) := by
    constructor
    · rintro ⟨q1, q2, q3⟩
      exact ⟨q1, q2, fun px py a0 a1 b0 b1 z => q3 px py a0 a1 b0 b1 ((e px py (by omega) (by omega) (by omega) (by omega)).mpr z)⟩
    · rintro ⟨q1, q2, q3⟩
      exact ⟨q1, q2, fun px py a0 a1 b0 b1 z => q3 px py a0 a1 b0 b1 ((e px py (by omega) (by omega) (by omega) (by omega)).mp z)⟩
  rw [f1]
/-- how many ways there are to fill what is bare -/
noncomputable def sN (sd : Nat → Int) (pr : Nat → Int → Int) (ag : Nat → Int → Prop) (w h : Int) (n : Nat) : Nat → (Int → Int → Prop) → (Nat → Prop) → Int
  | 0, C, _ => ip (ful C w h)
  | d + 1, C, S => @ite Int (ful C w h) (Classical.propDecidable _) 1 (qs (fun c => ip (okc sd pr ag w h C S c) * sN sd pr ag w h n d (nxC sd w h C c) (wo1 S c)) n)
theorem sN_f (f : ful C w h) : sN sd pr ag w h n d C S = 1 := by
  cases d with
  | zero => exact ip_1 f
  | succ d => unfold sN; rw [if_pos f]
theorem sN_s (f : ¬ ful C w h) : sN sd pr ag w h n (d + 1) C S = qs (fun c => ip (okc sd pr ag w h C S c) * sN sd pr ag w h n d (nxC sd w h C c) (wo1 S c)) n := by
  show @ite Int (ful C w h) (Classical.propDecidable _) 1 _ = _
  rw [if_neg f]
theorem sN_0 (f : ¬ ful C w h) : sN sd pr ag w h n 0 C S = 0 := ip_0 f
theorem sN_c (w12 : w ≤ 12) (e : ∀ px py, 0 ≤ px → px < w → 0 ≤ py → py < h → (C px py ↔ C' px py)) (eS : ∀ c, c < n → (S c ↔ S' c)) : sN sd pr ag w h n d C S = sN sd pr ag w h n d C' S' := by
  induction d generalizing C C' S S' with
  | zero => exact ip_c (ful_c e)
  | succ d ih =>
    by_cases f : ful C w h
    · rw [sN_f f, sN_f ((ful_c e).mp f)]
    · rw [sN_s f, sN_s (fun q => f ((ful_c e).mpr q))]
      refine qs_c (fun c hc => ?_)
      rw [ip_c (okc_c w12 e (eS c hc) f)]
      congr 1
      refine ih (fun px py a0 a1 b0 b1 => ?_) (fun i hi => ?_)
      · unfold nxC cvs
        rw [← fbC_c w12 e, e px py a0 a1 b0 b1]
      · unfold wo1
        rw [eS i hi]
theorem sN_b (n9 : n ≤ 9) : 0 ≤ sN sd pr ag w h n d C S ∧ sN sd pr ag w h n d C S ≤ ((9 ^ d : Nat) : Int) := by
  induction d generalizing C S with
  | zero =>
    have := ip_b (P := ful C w h)
    exact ⟨this.1, this.2⟩
  | succ d ih =>
    by_cases f : ful C w h
    · rw [sN_f f]
      have : 1 ≤ 9 ^ (d + 1) := Nat.one_le_pow _ _ (by decide)
      omega
    · rw [sN_s f]
      have h1 := qs_b (f := fun c => ip (okc sd pr ag w h C S c) * sN sd pr ag w h n d (nxC sd w h C c) (wo1 S c)) (n := n) (k := ((9 ^ d : Nat) : Int)) (fun c _ => by
        have k1 := ih (C := nxC sd w h C c) (S := wo1 S c)
        by_cases g : okc sd pr ag w h C S c
        · rw [ip_1 g, Int.one_mul]; exact k1
        · rw [ip_0 g, Int.zero_mul]; omega)
      refine ⟨h1.1, Int.le_trans h1.2 ?_⟩
      have h2 : 9 ^ (d + 1) = 9 ^ d * 9 := Nat.pow_succ _ _
      have h3 : 9 ^ d * n ≤ 9 ^ d * 9 := Nat.mul_le_mul_left _ n9
      rw [h2]
      exact_mod_cast h3
/-- the dearer and the cheaper -/
def mCh (t r k : Int) : Int := if r = -1 then t else if t = -1 then r + k else min t (r + k)
/-- what the cheapest way costs; -1: there is none -/
noncomputable def foC (f : Nat → Int → Int) : Nat → Int → Int
  | 0, t => t
  | n + 1, t => f n (foC f n t)
noncomputable def sL (sd : Nat → Int) (pr : Nat → Int → Int) (ag : Nat → Int → Prop) (w h : Int) (n : Nat) : Nat → (Int → Int → Prop) → (Nat → Prop) → Int
  | 0, C, _ => @ite Int (ful C w h) (Classical.propDecidable _) 0 (-1)
  | d + 1, C, S => @ite Int (ful C w h) (Classical.propDecidable _) 0 (foC (fun c t => @ite Int (okc sd pr ag w h C S c) (Classical.propDecidable _) (mCh t (sL sd pr ag w h n d (nxC sd w h C c) (wo1 S c)) (pr c (fbC C w h))) t) n (-1))
/-- the first way -/
def foS (f : Nat → Option (List Nat)) : Nat → Option (List Nat)
  | 0 => none
  | n + 1 => match foS f n with
    | some l => some l
    | none => f n
noncomputable def sF (sd : Nat → Int) (pr : Nat → Int → Int) (ag : Nat → Int → Prop) (w h : Int) (n : Nat) : Nat → (Int → Int → Prop) → (Nat → Prop) → Option (List Nat)
  | 0, C, _ => @ite (Option (List Nat)) (ful C w h) (Classical.propDecidable _) (some []) none
  | d + 1, C, S => @ite (Option (List Nat)) (ful C w h) (Classical.propDecidable _) (some []) (foS (fun c => @ite (Option (List Nat)) (okc sd pr ag w h C S c) (Classical.propDecidable _) ((sF sd pr ag w h n d (nxC sd w h C c) (wo1 S c)).map (fun l => c :: l)) none) n)
theorem sL_f (f : ful C w h) : sL sd pr ag w h n d C S = 0 := by
  cases d <;> (unfold sL; rw [if_pos f])
theorem sL_0 (f : ¬ ful C w h) : sL sd pr ag w h n 0 C S = -1 := by
  unfold sL; rw [if_neg f]
theorem sL_s (f : ¬ ful C w h) : sL sd pr ag w h n (d + 1) C S = foC (fun c t => @ite Int (okc sd pr ag w h C S c) (Classical.propDecidable _) (mCh t (sL sd pr ag w h n d (nxC sd w h C c) (wo1 S c)) (pr c (fbC C w h))) t) n (-1) := by
  show @ite Int (ful C w h) (Classical.propDecidable _) 0 _ = _
  rw [if_neg f]
theorem sF_f (f : ful C w h) : sF sd pr ag w h n d C S = some [] := by
  cases d <;> (unfold sF; rw [if_pos f])
theorem sF_0 (f : ¬ ful C w h) : sF sd pr ag w h n 0 C S = none := by
  unfold sF; rw [if_neg f]
theorem sF_s (f : ¬ ful C w h) : sF sd pr ag w h n (d + 1) C S = foS (fun c => @ite (Option (List Nat)) (okc sd pr ag w h C S c) (Classical.propDecidable _) ((sF sd pr ag w h n d (nxC sd w h C c) (wo1 S c)).map (fun l => c :: l)) none) n := by
  show @ite (Option (List Nat)) (ful C w h) (Classical.propDecidable _) (some []) _ = _
  rw [if_neg f]
theorem foC_c {f g : Nat → Int → Int} {t : Int} (e : ∀ c t, c < n → f c t = g c t) : foC f n t = foC g n t := by
  induction n with
  | zero => rfl
  | succ n ih =>
    show f n (foC f n t) = g n (foC g n t)
    rw [ih (fun c t hc => e c t (by omega)), e n _ (by omega)]
theorem foS_c {f g : Nat → Option (List Nat)} (e : ∀ c, c < n → f c = g c) : foS f n = foS g n := by
  induction n with
  | zero => rfl
  | succ n ih =>
    unfold foS
    rw [ih (fun c hc => e c (by omega)), e n (by omega)]
theorem sL_c (w12 : w ≤ 12) (e : ∀ px py, 0 ≤ px → px < w → 0 ≤ py → py < h → (C px py ↔ C' px py)) (eS : ∀ c, c < n → (S c ↔ S' c)) : sL sd pr ag w h n d C S = sL sd pr ag w h n d C' S' := by
  induction d generalizing C C' S S' with
  | zero =>
    by_cases f : ful C w h
    · rw [sL_f f, sL_f ((ful_c e).mp f)]
    · rw [sL_0 f, sL_0 (fun q => f ((ful_c e).mpr q))]
  | succ d ih =>
    by_cases f : ful C w h
    · rw [sL_f f, sL_f ((ful_c e).mp f)]
    · rw [sL_s f, sL_s (fun q => f ((ful_c e).mpr q))]
      refine foC_c (fun c t hc => ?_)
      have i1 : sL sd pr ag w h n d (nxC sd w h C c) (wo1 S c) = sL sd pr ag w h n d (nxC sd w h C' c) (wo1 S' c) := ih (fun px py a0 a1 b0 b1 => by
        unfold nxC cvs
        rw [← fbC_c w12 e, e px py a0 a1 b0 b1]) (fun i hi => by
        unfold wo1
        rw [eS i hi])
      by_cases g : okc sd pr ag w h C S c
      · rw [if_pos g, if_pos ((okc_c w12 e (eS c hc) f).mp g), i1, fbC_c w12 e]
      · rw [if_neg g, if_neg (fun q => g ((okc_c w12 e (eS c hc) f).mpr q))]
theorem sF_c (w12 : w ≤ 12) (e : ∀ px py, 0 ≤ px → px < w → 0 ≤ py → py < h → (C px py ↔ C' px py)) (eS : ∀ c, c < n → (S c ↔ S' c)) : sF sd pr ag w h n d C S = sF sd pr ag w h n d C' S' := by
  induction d generalizing C C' S S' with
  | zero =>
    by_cases f : ful C w h
    · rw [sF_f f, sF_f ((ful_c e).mp f)]
    · rw [sF_0 f, sF_0 (fun q => f ((ful_c e).mpr q))]
  | succ d ih =>
    by_cases f : ful C w h
    · rw [sF_f f, sF_f ((ful_c e).mp f)]
    · rw [sF_s f, sF_s (fun q => f ((ful_c e).mpr q))]
      refine foS_c (fun c hc => ?_)
      have i1 : sF sd pr ag w h n d (nxC sd w h C c) (wo1 S c) = sF sd pr ag w h n d (nxC sd w h C' c) (wo1 S' c) := ih (fun px py a0 a1 b0 b1 => by
        unfold nxC cvs
        rw [← fbC_c w12 e, e px py a0 a1 b0 b1]) (fun i hi => by
        unfold wo1
        rw [eS i hi])
      by_cases g : okc sd pr ag w h C S c
      · rw [if_pos g, if_pos ((okc_c w12 e (eS c hc) f).mp g), i1]
      · rw [if_neg g, if_neg (fun q => g ((okc_c w12 e (eS c hc) f).mpr q))]
theorem qs_p {f : Nat → Int} (hf : ∀ i, i < n → 0 ≤ f i) : 0 < qs f n ↔ ∃ i, i < n ∧ 0 < f i := by
  induction n with
  | zero => exact ⟨fun q => absurd q (by show ¬ (0 : Int) < 0; omega), fun ⟨i, hi, _⟩ => absurd hi (by omega)⟩
  | succ n ih =>
    have h0 := ih (fun i hi => hf i (by omega))
    have h1 := (qs_le (f := fun _ => (0 : Int)) (g := f) (n := n) (fun i hi => hf i (by omega)))
    have h2 : qs (fun _ => (0 : Int)) n = 0 := qs_z0
    have h3 := hf n (by omega)
    show 0 < qs f n + f n ↔ _
    constructor
    · intro q
      by_cases g : 0 < qs f n
      · obtain ⟨i, i1, i2⟩ := h0.mp g
        exact ⟨i, by omega, i2⟩
      · exact ⟨n, by omega, by omega⟩
    · rintro ⟨i, i1, i2⟩
      by_cases g : i = n
      · subst g; omega
      · have := h0.mpr ⟨i, by omega, i2⟩
        omega
theorem foS_n {f : Nat → Option (List Nat)} : foS f n = none ↔ ∀ c, c < n → f c = none := by
  induction n with
  | zero => exact ⟨fun _ c hc => absurd hc (by omega), fun _ => rfl⟩
  | succ n ih =>
    unfold foS
    cases g : foS f n with
    | some l =>
      simp only
      constructor
      · intro q; cases q
      · intro q
        have := ih.mpr (fun c hc => q c (by omega))
        rw [g] at this
        cases this
    | none =>
      simp only
      constructor
      · intro q c hc
        by_cases e : c = n
        · rw [e]; exact q
        · exact ih.mp g c (by omega)
      · intro q; exact q n (by omega)
/-- among the first m carpets there is a first way just if there is one -/
theorem fo_N (n9 : n ≤ 9) (ih : ∀ (C : Int → Int → Prop) (S : Nat → Prop), sF sd pr ag w h n d C S = none ↔ sN sd pr ag w h n d C S = 0) (m : Nat) : foS (fun c => @ite (Option (List Nat)) (okc sd pr ag w h C S c) (Classical.propDecidable _) ((sF sd pr ag w h n d (nxC sd w h C c) (wo1 S c)).map (fun l => c :: l)) none) m = none ↔ qs (fun c => ip (okc sd pr ag w h C S c) * sN sd pr ag w h n d (nxC sd w h C c) (wo1 S c)) m = 0 := by
  rw [foS_n]
  have hp := qs_p (n := m) (f := fun c => ip (okc sd pr ag w h C S c) * sN sd pr ag w h n d (nxC sd w h C c) (wo1 S c)) (fun c _ => Int.mul_nonneg ip_b.1 (sN_b n9).1)
  have hz := qs_le (f := fun _ => (0 : Int)) (g := fun c => ip (okc sd pr ag w h C S c) * sN sd pr ag w h n d (nxC sd w h C c) (wo1 S c)) (n := m) (fun c _ => Int.mul_nonneg ip_b.1 (sN_b n9).1)
  rw [qs_z0] at hz
  constructor
  · intro q
    refine Classical.byContradiction (fun g => ?_)
    obtain ⟨i, i1, i2⟩ := hp.mp (by omega)
    have q1 := q i i1
    by_cases k : okc sd pr ag w h C S i
    · simp only [ip_1 k, Int.one_mul] at i2
      rw [if_pos k] at q1
      have q2 := (ih _ _).mp (Option.map_eq_none_iff.mp q1)
      omega
    · simp only [ip_0 k, Int.zero_mul] at i2
      omega
  · intro q c hc
    by_cases k : okc sd pr ag w h C S c
    · rw [if_pos k]
      refine Option.map_eq_none_iff.mpr ((ih _ _).mpr ?_)
      have k1 := (sN_b (sd := sd) (pr := pr) (ag := ag) (w := w) (h := h) (d := d) (C := nxC sd w h C c) (S := wo1 S c) n9).1
      refine Classical.byContradiction (fun g => ?_)
      have := hp.mpr ⟨c, hc, by simp only [ip_1 k, Int.one_mul]; omega⟩
      omega
    · rw [if_neg k]
/-- there is a first way just if there is one -/
theorem sF_N (n9 : n ≤ 9) : sF sd pr ag w h n d C S = none ↔ sN sd pr ag w h n d C S = 0 := by
  induction d generalizing C S with
  | zero =>
    by_cases f : ful C w h
    · rw [sF_f f, sN_f f]; exact ⟨fun q => (by cases q), fun q => absurd q (by decide)⟩
    · rw [sF_0 f, sN_0 f]; exact ⟨fun _ => rfl, fun _ => rfl⟩
  | succ d ih =>
    by_cases f : ful C w h
    · rw [sF_f f, sN_f f]; exact ⟨fun q => (by cases q), fun q => absurd q (by decide)⟩
    · rw [sF_s f, sN_s f]
      exact fo_N n9 (fun _ _ => ih) n
end QVA
section QVB
variable {V W W' W1 U : dV} {a p q k x y s w h z : Int} {n d c : Nat} {sd : Nat → Int} {pr : Nat → Int → Int} {C : Int → Int → Prop} {S : Nat → Prop} {o : Option (List Nat)}
def noag : Nat → Int → Prop := fun _ _ => True
/-- what the reference's search stands on -/
def rx (a : Int) (W : dV) (P : Nat → Prop) (n : Nat) (sd : Nat → Int) (pr : Nat → Int → Int) (w h : Int) : Prop := (W a 2 69 = (n : Int) ∧ (∀ c : Nat, c < n → W a 2 (29 + (c : Int)) = sd c) ∧ (∀ (c : Nat) (z : Int), c < n → P c → 0 ≤ z → z < 144 → W a 34 (144 * (c : Int) + z) = pr c z)) ∧ W a 39 0 = w ∧ W a 40 0 = h ∧ W a 44 0 = 0 ∧ W a 45 0 = 0
def rs (n : Nat) (sd : Nat → Int) (pr : Nat → Int → Int) (w h : Int) : Prop := n ≤ 9 ∧ (0 ≤ w ∧ w ≤ 12) ∧ (0 ≤ h ∧ h ≤ 12) ∧ (∀ c : Nat, c < n → 1 ≤ sd c ∧ sd c ≤ 12) ∧ ∀ (c : Nat) (z : Int), c < n → 0 ≤ z → z < 144 → -1 ≤ pr c z ∧ pr c z ≤ 99
/-- what it changes -/
def gf (a : Int) (W W' : dV) : Prop := ∀ b m z, ¬ (b = a ∧ (m = 29 ∨ m = 35 ∨ m = 36 ∨ m = 37 ∨ m = 41 ∨ m = 42 ∨ m = 43)) → W' b m z = W b m z
theorem gf_r : gf a W W := fun _ _ _ _ => rfl
theorem gf_t (h : gf a W W') (k : gf a W' W1) : gf a W W1 := fun b m z q => (k b m z q).trans (h b m z q)
theorem gf_u {m : Nat} {z v : Int} (hm : m = 29 ∨ m = 35 ∨ m = 36 ∨ m = 37 ∨ m = 41 ∨ m = 42 ∨ m = 43) : gf a W (dv_u W a m z v) := fun b m' z' q => by
  unfold dv_u
  rw [if_neg (fun e => q ⟨e.1, by rw [e.2.1]; exact hm⟩)]
theorem gf_29 (h : ∀ b j z, ¬ (b = a ∧ j = 29) → W' b j z = W b j z) : gf a W W' := fun b m z q => h b m z (fun e => q ⟨e.1, Or.inl e.2⟩)
theorem gf_m (f : gf a W W') {m : Nat} (hm : ¬ (m = 29 ∨ m = 35 ∨ m = 36 ∨ m = 37 ∨ m = 41 ∨ m = 42 ∨ m = 43)) (z : Int) : W' a m z = W a m z := f a m z (fun q => hm q.2)
theorem rx_c {P : Nat → Prop} (h0 : rx a W P n sd pr w h) (f : gf a W W') : rx a W' P n sd pr w h := by
  obtain ⟨⟨h1, h2, h3⟩, h4, h5, h6, h7⟩ := h0
  have e2 := fun z => gf_m f (m := 2) (by decide) z
  refine ⟨⟨by rw [e2]; exact h1, fun c hc => by rw [e2]; exact h2 c hc, fun c z hc hP z0 z1 => by rw [gf_m f (by decide)]; exact h3 c z hc hP z0 z1⟩, ?_, ?_, ?_, ?_⟩
  · rw [gf_m f (by decide)]; exact h4
  · rw [gf_m f (by decide)]; exact h5
  · rw [gf_m f (by decide)]; exact h6
  · rw [gf_m f (by decide)]; exact h7
def bsm (a : Int) (W W' : dV) : Prop := ∀ py : Int, 0 ≤ py → py < 12 → ∀ i : Nat, i < 32 → qb (W' a 29 py) i = qb (W a 29 py) i
def cw (a : Int) (W : dV) : Int → Int → Prop := fun px py => qb (W a 29 py) px.toNat = true
def lfs (p : Int) : Nat → Prop := fun i => qb p i = true
/-- the first way, as it is noted -/
def fsn (a : Int) (W W' : dV) (q : Int) (o : Option (List Nat)) : Prop := match o with
  | none => (∀ z, W' a 37 z = W a 37 z) ∧ W' a 42 0 = W a 42 0
  | some l => W' a 42 0 = q + (l.length : Int) ∧ (∀ i, 0 ≤ i → i < q → W' a 37 i = W a 35 i) ∧ ∀ i : Nat, i < l.length → W' a 37 (q + (i : Int)) = ((l.getD i 0 : Nat) : Int)
def lmn (t k s : Int) : Int := if s = -1 then t else min t (k + s)
/-- a way is noted -/
theorem g_fill (h44 : W a 44 0 = 0) (h41 : 0 ≤ W a 41 0 ∧ W a 41 0 < 2147483647) (q0 : 0 ≤ q) : ∃ W' : dV, f_X12_fills W a q k = (W', 0) ∧ gf a W W' ∧ (∀ py, W' a 29 py = W a 29 py) ∧ (∀ i, W' a 35 i = W a 35 i) ∧ W' a 41 0 = W a 41 0 + 1 ∧ W' a 43 0 = min (W a 43 0) k ∧ fsn a W W' q (if W a 41 0 = 0 then some [] else none) := by
  unfold f_X12_fills
  rw [bq, if_pos h44]
  unfold f_X12_fills_16
  rw [bq, bq, bq, bq, dv_bn2 q_lesser, bq, bq, dv_add_ok (by omega) (by omega) (by omega) (by omega) (by decide) (by decide)]
  have e43 : dv_u W a 41 0 (W a 41 0 + 1) a 43 0 = W a 43 0 := u_j (by decide)
  have e44 : dv_u (dv_u W a 41 0 (W a 41 0 + 1)) a 43 0 (min (dv_u W a 41 0 (W a 41 0 + 1) a 43 0) k) a 44 0 = 0 := by
    rw [u_j (by decide), u_j (by decide)]; exact h44
  rw [if_pos e44, e43]
  have f0 : gf a W (dv_u (dv_u W a 41 0 (W a 41 0 + 1)) a 43 0 (min (W a 43 0) k)) := gf_t (gf_u (by decide)) (gf_u (by decide))
  have k41 : dv_u (dv_u W a 41 0 (W a 41 0 + 1)) a 43 0 (min (W a 43 0) k) a 41 0 = W a 41 0 + 1 := by
    rw [u_j (by decide), u_e]
  have k43 : dv_u (dv_u W a 41 0 (W a 41 0 + 1)) a 43 0 (min (W a 43 0) k) a 43 0 = min (W a 43 0) k := u_e
  have k29 : ∀ py, dv_u (dv_u W a 41 0 (W a 41 0 + 1)) a 43 0 (min (W a 43 0) k) a 29 py = W a 29 py := fun py => by
    rw [u_j (by decide), u_j (by decide)]
  have k35 : ∀ i, dv_u (dv_u W a 41 0 (W a 41 0 + 1)) a 43 0 (min (W a 43 0) k) a 35 i = W a 35 i := fun i => by
    rw [u_j (by decide), u_j (by decide)]
  have k37 : ∀ i, dv_u (dv_u W a 41 0 (W a 41 0 + 1)) a 43 0 (min (W a 43 0) k) a 37 i = W a 37 i := fun i => by
    rw [u_j (by decide), u_j (by decide)]
  have k42 : dv_u (dv_u W a 41 0 (W a 41 0 + 1)) a 43 0 (min (W a 43 0) k) a 42 0 = W a 42 0 := by
    rw [u_j (by decide), u_j (by decide)]
  generalize dv_u (dv_u W a 41 0 (W a 41 0 + 1)) a 43 0 (min (W a 43 0) k) = U at *
  unfold f_X12_fills_50
  rw [bq, k41]
  by_cases e : W a 41 0 = 0
  · rw [if_pos (show W a 41 0 + 1 ≤ 1 by omega), bq, if_pos e]
    refine dv_inv (b := f_X12_fills_66b) (P := fun s => ∃ (T : dV) (j : Int), s = (T, a, q, j) ∧ 0 ≤ j ∧ j ≤ q ∧ (∀ m z, m ≠ 37 → m ≠ 42 → T a m z = U a m z) ∧ (∀ b m z, b ≠ a → T b m z = U b m z) ∧ T a 42 0 = q ∧ ∀ i, 0 ≤ i → i < j → T a 37 i = U a 35 i) (Q := fun r => ∃ W' : dV, r = (W', 0) ∧ gf a W W' ∧ (∀ py, W' a 29 py = W a 29 py) ∧ (∀ i, W' a 35 i = W a 35 i) ∧ W' a 41 0 = W a 41 0 + 1 ∧ W' a 43 0 = min (W a 43 0) k ∧ fsn a W W' q (some [])) (m := fun s => (q - s.2.2.2).toNat) ?_ _ ⟨_, 0, rfl, by decide, q0, fun m z _ hm => u_j hm, fun b m z hb => u_b hb, u_e, fun i i0 i1 => absurd i1 (by omega)⟩
    rintro s ⟨T, j, rfl, j0, j1, t1, t2, t3, t4⟩
    rw [f_X12_fills_66e]
    unfold f_X12_fills_66c
    by_cases g : q ≤ j
    · rw [if_pos g]
      refine Or.inr ⟨_, rfl, T, rfl, fun b m z hq => ?_, fun py => ?_, fun i => ?_, ?_, ?_, ?_, fun i i0 i1 => ?_, fun i hi => absurd hi (by show ¬ i < 0; omega)⟩
      · by_cases hb : b = a
        · subst hb
          rw [t1 m z (fun e9 => hq ⟨rfl, by rw [e9]; decide⟩) (fun e9 => hq ⟨rfl, by rw [e9]; decide⟩)]
          exact f0 b m z hq
        · rw [t2 b m z hb]; exact f0 b m z hq
      · rw [t1 29 py (by decide) (by decide)]; exact k29 py
      · rw [t1 35 i (by decide) (by decide)]; exact k35 i
      · rw [t1 41 0 (by decide) (by decide)]; exact k41
      · rw [t1 43 0 (by decide) (by decide)]; exact k43
      · rw [t3]; show q = q + ((0 : Nat) : Int); omega
      · rw [t4 i i0 (by omega)]; exact k35 i
    · rw [if_neg g, bq, bq, bq]
      refine Or.inl ⟨_, rfl, ⟨_, j + 1, rfl, by omega, by omega, fun m z h1 h2 => ?_, fun b m z hb => ?_, ?_, fun i i0 i1 => ?_⟩, by dsimp only; omega⟩
      · rw [u_j h1]; exact t1 m z h1 h2
      · rw [u_b hb]; exact t2 b m z hb
      · rw [u_j (by decide)]; exact t3
      · by_cases ei : i = j
        · rw [ei, u_e]; exact t1 35 j (by decide) (by decide)
        · rw [u_i ei]; exact t4 i i0 (by omega)
  · rw [if_neg (show ¬ W a 41 0 + 1 ≤ 1 by omega), if_neg e]
    exact ⟨U, rfl, f0, k29, k35, k41, k43, k37, k42⟩
theorem sL_b (hs : rs n sd pr w h) {ag : Nat → Int → Prop} : -1 ≤ sL sd pr ag w h n d C S := by
  obtain ⟨n9, ⟨w0, w12⟩, ⟨h0, h12⟩, -, hp⟩ := hs
  induction d generalizing C S with
  | zero =>
    by_cases f : ful C w h
    · rw [sL_f f]; decide
    · rw [sL_0 f]; exact Int.le_refl _
  | succ d ih =>
    by_cases f : ful C w h
    · rw [sL_f f]; decide
    · rw [sL_s f]
      obtain ⟨r, k⟩ := fb1_ex (C := C) (w := w) (h := h) w12
      have hr : 0 ≤ fbC C w h ∧ fbC C w h < 144 := by
        rw [fbC_is w12 k]
        rcases k with ⟨rfl, k1⟩ | ⟨px, py, rfl, ⟨x0, x1⟩, ⟨y0, y1⟩, -⟩
        · exact absurd k1 f
        · omega
      have key : ∀ m : Nat, m ≤ n → -1 ≤ foC (fun c t => @ite Int (okc sd pr ag w h C S c) (Classical.propDecidable _) (mCh t (sL sd pr ag w h n d (nxC sd w h C c) (wo1 S c)) (pr c (fbC C w h))) t) m (-1) := by
        intro m
        induction m with
        | zero => exact fun _ => Int.le_refl _
        | succ m ihm =>
          intro hm
          have i1 := ihm (by omega)
          unfold foC
          generalize foC (fun c t => @ite Int (okc sd pr ag w h C S c) (Classical.propDecidable _) (mCh t (sL sd pr ag w h n d (nxC sd w h C c) (wo1 S c)) (pr c (fbC C w h))) t) m (-1) = t at i1
          by_cases g : okc sd pr ag w h C S m
          · rw [if_pos g]
            have i2 := ih (C := nxC sd w h C m) (S := wo1 S m)
            have i3 := hp m _ (by omega) hr.1 hr.2
            have i4 := g.2.1
            unfold mCh
            split
            · exact i1
            · split <;> omega
          · rw [if_neg g]; exact i1
      exact key n (Nat.le_refl _)
theorem lmn_s {t k acc s v : Int} (h1 : -1 ≤ acc) (h2 : -1 ≤ s) (h3 : 0 ≤ v) : lmn (lmn t k acc) (k + v) s = lmn t k (mCh acc s v) := by
  unfold lmn mCh
  by_cases e1 : s = -1
  · rw [if_pos e1, if_pos e1]
  · rw [if_neg e1, if_neg e1]
    by_cases e2 : acc = -1
    · rw [if_pos e2, if_pos e2, if_neg (show ¬ s + v = -1 by omega)]
      omega
    · rw [if_neg e2, if_neg e2, if_neg (show ¬ min acc (s + v) = -1 by omega)]
      omega
end QVB
section QVC
variable {V W W' W1 U : dV} {a p q k x y s w h z : Int} {n d c : Nat} {sd : Nat → Int} {pr : Nat → Int → Int} {C : Int → Int → Prop} {S : Nat → Prop} {o : Option (List Nat)}
/-- a square laid where nothing lies -/
theorem t_cov (hs : 1 ≤ s ∧ s ≤ 12) (x0 : 0 ≤ x) (y0 : 0 ≤ y) (x1 : x + s ≤ 12) (y1 : y + s ≤ 12) (hf : fpl (cw a W) s x y) (ht : ∀ z, U a 29 z = if y ≤ z ∧ z < y + s then dv_xor (W a 29 z) (mk s x) else W a 29 z) : ∀ px py, 0 ≤ px → px < 12 → 0 ≤ py → py < 12 → (cw a U px py ↔ cvs (cw a W) s x y px py) := by
  intro px py px0 px1 py0 py1
  unfold cw cvs
  rw [ht py]
  by_cases e : y ≤ py ∧ py < y + s
  · have hm := qb_mk (s := s) (x := x) (i := px.toNat) (by omega) hs.2 x0 (by omega) (by omega)
    rw [if_pos e, qb_xor]
    by_cases g : x ≤ px ∧ px < x + s
    · have k1 : qb (mk s x) px.toNat = true := hm.mpr (by omega)
      have k2 : ¬ qb (W a 29 py) px.toNat = true := hf px py g.1 g.2 e.1 e.2
      rw [k1]
      have k3 : qb (W a 29 py) px.toNat = false := by
        cases hq : qb (W a 29 py) px.toNat with
        | false => rfl
        | true => exact absurd hq k2
      rw [k3]
      exact ⟨fun _ => Or.inr ⟨g, e⟩, fun _ => rfl⟩
    · have k1 : qb (mk s x) px.toNat = false := by
        cases hq : qb (mk s x) px.toNat with
        | false => rfl
        | true => exact absurd (hm.mp hq) (by omega)
      rw [k1, Bool.xor_false]
      exact ⟨Or.inl, fun w => w.resolve_right (fun w2 => g w2.1)⟩
  · rw [if_neg e]
    exact ⟨Or.inl, fun w => w.resolve_right (fun w2 => e w2.2)⟩
/-- laid and taken away again -/
theorem t_back {U2 U3 : dV} (ht : ∀ z, U a 29 z = if y ≤ z ∧ z < y + s then dv_xor (W a 29 z) (mk s x) else W a 29 z) (hb : bsm a U U2) (h3 : ∀ z, U3 a 29 z = if y ≤ z ∧ z < y + s then dv_xor (U2 a 29 z) (mk s x) else U2 a 29 z) : bsm a W U3 := by
  intro py p0 p1 i hi
  rw [h3 py]
  by_cases e : y ≤ py ∧ py < y + s
  · rw [if_pos e, qb_xor, hb py p0 p1 i hi, ht py, if_pos e, qb_xor, Bool.xor_assoc, Bool.xor_self, Bool.xor_false]
  · rw [if_neg e, hb py p0 p1 i hi, ht py, if_neg e]
/-- what goesOn gives -/
def gQ (a : Int) (W W' : dV) (q k N L : Int) (o : Option (List Nat)) : Prop := gf a W W' ∧ bsm a W W' ∧ W' a 41 0 = W a 41 0 + N ∧ W' a 43 0 = lmn (W a 43 0) k L ∧ (∀ i, 0 ≤ i → i < q → W' a 35 i = W a 35 i) ∧ fsn a W W' q (if W a 41 0 = 0 then o else none)
theorem g_goesB {P : Nat → Prop} {rc : dV → Int → Int → Int → Int → dR} (hs : rs n sd pr w h) (hrc : ∀ (d' : Nat) (W : dV) (p q k : Int), d = d' + 1 → rx a W P n sd pr w h → (∀ c, c < n → lfs p c → P c) → cnt p ≤ d' → 0 ≤ q → (0 ≤ k ∧ k + 99 * (d' : Int) ≤ 1000000) → (0 ≤ W a 41 0 ∧ W a 41 0 + ((9 ^ d' : Nat) : Int) ≤ 2147483647) → ∃ W' : dV, rc W a p q k = (W', 0) ∧ gQ a W W' q k (sN sd pr noag w h n d' (cw a W) (lfs p)) (sL sd pr noag w h n d' (cw a W) (lfs p)) (sF sd pr noag w h n d' (cw a W) (lfs p))) (hx : rx a W P n sd pr w h) (hP : ∀ c, c < n → lfs p c → P c) (hc : cnt p ≤ d) (q0 : 0 ≤ q) (hk : 0 ≤ k ∧ k + 99 * (d : Int) ≤ 1000000) (h41 : 0 ≤ W a 41 0 ∧ W a 41 0 + ((9 ^ d : Nat) : Int) ≤ 2147483647) : ∃ W' : dV, f_X12_goesOn_B d rc W a p q k = (W', 0) ∧ gQ a W W' q k (sN sd pr noag w h n d (cw a W) (lfs p)) (sL sd pr noag w h n d (cw a W) (lfs p)) (sF sd pr noag w h n d (cw a W) (lfs p)) := by
  obtain ⟨n9, ⟨w0, w12⟩, ⟨h0, h12⟩, hsd, hpr⟩ := id hs
  obtain ⟨⟨x1, x2, x3⟩, x39, x40, x44, x45⟩ := id hx
  have p9 : 1 ≤ 9 ^ d := Nat.one_le_pow _ _ (by decide)
  obtain ⟨r, r1, r2⟩ := q_mfb (W := W) (a := a) (w := w) (h := h) (C := cw a W) w12 h12 (fun px py _ _ _ _ => Iff.rfl)
  have er := fbC_is w12 r2
  have hful := fb1_ful r2
  unfold f_X12_goesOn_B
  rw [bq, if_pos x45]
  unfold f_X12_goesOn_15
  rw [bq, bq, x39, x40, dv_bn2 r1]
  by_cases e : r = -1
  · have f := hful.mpr e
    obtain ⟨W', g1, g2, g3, g4, g5, g6, g7⟩ := g_fill (W := W) (a := a) (q := q) (k := k) x44 (by omega) q0
    rw [if_neg (fun g => g e), dv_bn2 g1, sN_f f, sL_f f, sF_f f]
    refine ⟨W', rfl, g2, fun py _ _ i _ => by rw [g3], g5, ?_, fun i _ _ => g4 i, g7⟩
    rw [g6]
    unfold lmn
    rw [if_neg (by decide), Int.add_zero]
  have nf : ¬ ful (cw a W) w h := fun f => e (hful.mp f)
  have hr : (0 ≤ r % 12 ∧ r % 12 < w) ∧ (0 ≤ r / 12 ∧ r / 12 < h) ∧ 0 ≤ r ∧ r < 144 := by
    rcases r2 with ⟨rfl, k1⟩ | ⟨px, py, rfl, ⟨a0, a1⟩, ⟨b0, b1⟩, -⟩
    · exact absurd rfl e
    · omega
  rw [if_pos e, bq, bq]
  -- what the carpets up to j give
  have hz : ∃ d', d = d' + 1 ∨ (d = 0 ∧ d' = 0) := by
    cases d with
    | zero => exact ⟨0, Or.inr ⟨rfl, rfl⟩⟩
    | succ d' => exact ⟨d', Or.inl rfl⟩
  obtain ⟨d', hd'⟩ := hz
  rcases hd' with rfl | ⟨rfl, rfl⟩
  case inr =>
    -- nothing is left
    rw [sN_0 nf, sL_0 nf, sF_0 nf]
    refine dv_inv (b := f_X12_goesOn_59b 0 rc) (P := fun s => ∃ j : Int, s = (W, r / 12, r % 12, r, a, p, q, k, j) ∧ 0 ≤ j) (Q := fun t => ∃ W' : dV, t = (W', 0) ∧ gQ a W W' q k 0 (-1) none) (m := fun s => (9 - s.2.2.2.2.2.2.2.2).toNat) ?_ _ ⟨0, rfl, by decide⟩
    rintro s ⟨j, rfl, j0⟩
    rw [f_X12_goesOn_59e]
    unfold f_X12_goesOn_59c
    rw [dv_bn2 q_many, x1]
    by_cases e1 : (n : Int) ≤ j
    · rw [if_pos e1]
      refine Or.inr ⟨_, rfl, W, rfl, gf_r, fun _ _ _ _ _ => rfl, by omega, by unfold lmn; rw [if_pos rfl], fun _ _ _ => rfl, ?_⟩
      split <;> exact ⟨fun _ => rfl, rfl⟩
    · rw [if_neg e1, dv_bn2 (q_isIn j0 (by omega))]
      have e2 : ¬ qb p j.toNat = true := fun g => by
        have := cnt_off j0 (show j < 9 by omega) g
        omega
      rw [if_neg e2, if_pos rfl, bq]
      exact Or.inl ⟨_, rfl, ⟨j + 1, rfl, by omega⟩, by dsimp only; omega⟩
  have p9' : (9 ^ (d' + 1) : Nat) = 9 ^ d' * 9 := Nat.pow_succ _ _
  have pd : 1 ≤ 9 ^ d' := Nat.one_le_pow _ _ (by decide)
  rw [sN_s nf, sL_s nf, sF_s nf]
  have hN : ∀ c, 0 ≤ sN sd pr noag w h n d' (nxC sd w h (cw a W) c) (wo1 (lfs p) c) ∧ sN sd pr noag w h n d' (nxC sd w h (cw a W) c) (wo1 (lfs p) c) ≤ ((9 ^ d' : Nat) : Int) := fun c => sN_b n9
  have hN2 : ∀ c, 0 ≤ ip (okc sd pr noag w h (cw a W) (lfs p) c) * sN sd pr noag w h n d' (nxC sd w h (cw a W) c) (wo1 (lfs p) c) ∧ ip (okc sd pr noag w h (cw a W) (lfs p) c) * sN sd pr noag w h n d' (nxC sd w h (cw a W) c) (wo1 (lfs p) c) ≤ ((9 ^ d' : Nat) : Int) := fun c => by
    by_cases g : okc sd pr noag w h (cw a W) (lfs p) c
    · rw [ip_1 g, Int.one_mul]; exact hN c
    · rw [ip_0 g, Int.zero_mul]; have := hN c; omega
  have hsum : ∀ m : Nat, 0 ≤ qs (fun c => ip (okc sd pr noag w h (cw a W) (lfs p) c) * sN sd pr noag w h n d' (nxC sd w h (cw a W) c) (wo1 (lfs p) c)) m ∧ qs (fun c => ip (okc sd pr noag w h (cw a W) (lfs p) c) * sN sd pr noag w h n d' (nxC sd w h (cw a W) c) (wo1 (lfs p) c)) m ≤ ((9 ^ d' : Nat) : Int) * m := fun m => qs_b (fun c _ => hN2 c)
  have hfo : ∀ m : Nat, m ≤ n → -1 ≤ foC (fun c t => @ite Int (okc sd pr noag w h (cw a W) (lfs p) c) (Classical.propDecidable _) (mCh t (sL sd pr noag w h n d' (nxC sd w h (cw a W) c) (wo1 (lfs p) c)) (pr c (fbC (cw a W) w h))) t) m (-1) := by
    intro m
    induction m with
    | zero => exact fun _ => Int.le_refl _
    | succ m ihm =>
      intro hm
      have ihm := ihm (by omega)
      unfold foC
      generalize foC (fun c t => @ite Int (okc sd pr noag w h (cw a W) (lfs p) c) (Classical.propDecidable _) (mCh t (sL sd pr noag w h n d' (nxC sd w h (cw a W) c) (wo1 (lfs p) c)) (pr c (fbC (cw a W) w h))) t) m (-1) = t at ihm
      by_cases g : okc sd pr noag w h (cw a W) (lfs p) m
      · rw [if_pos g]
        have i2 := sL_b (C := nxC sd w h (cw a W) m) (S := wo1 (lfs p) m) (d := d') (ag := noag) hs
        have i4 := g.2.1
        have i3 := hpr m r (by omega) hr.2.2.1 hr.2.2.2
        rw [er] at i4 ⊢
        unfold mCh
        split
        · exact ihm
        · split <;> omega
      · rw [if_neg g]; exact ihm
  refine dv_inv (b := f_X12_goesOn_59b (d' + 1) rc) (P := fun s => ∃ (j : Nat) (T : dV), s = (T, r / 12, r % 12, r, a, p, q, k, (j : Int)) ∧ j ≤ n ∧ gf a W T ∧ bsm a W T ∧ T a 41 0 = W a 41 0 + qs (fun c => ip (okc sd pr noag w h (cw a W) (lfs p) c) * sN sd pr noag w h n d' (nxC sd w h (cw a W) c) (wo1 (lfs p) c)) j ∧ T a 43 0 = lmn (W a 43 0) k (foC (fun c t => @ite Int (okc sd pr noag w h (cw a W) (lfs p) c) (Classical.propDecidable _) (mCh t (sL sd pr noag w h n d' (nxC sd w h (cw a W) c) (wo1 (lfs p) c)) (pr c (fbC (cw a W) w h))) t) j (-1)) ∧ (∀ i, 0 ≤ i → i < q → T a 35 i = W a 35 i) ∧ fsn a W T q (if W a 41 0 = 0 then foS (fun c => @ite (Option (List Nat)) (okc sd pr noag w h (cw a W) (lfs p) c) (Classical.propDecidable _) ((sF sd pr noag w h n d' (nxC sd w h (cw a W) c) (wo1 (lfs p) c)).map (fun l => c :: l)) none) j else none)) (Q := fun t => ∃ W' : dV, t = (W', 0) ∧ gQ a W W' q k (qs (fun c => ip (okc sd pr noag w h (cw a W) (lfs p) c) * sN sd pr noag w h n d' (nxC sd w h (cw a W) c) (wo1 (lfs p) c)) n) (foC (fun c t => @ite Int (okc sd pr noag w h (cw a W) (lfs p) c) (Classical.propDecidable _) (mCh t (sL sd pr noag w h n d' (nxC sd w h (cw a W) c) (wo1 (lfs p) c)) (pr c (fbC (cw a W) w h))) t) n (-1)) (foS (fun c => @ite (Option (List Nat)) (okc sd pr noag w h (cw a W) (lfs p) c) (Classical.propDecidable _) ((sF sd pr noag w h n d' (nxC sd w h (cw a W) c) (wo1 (lfs p) c)).map (fun l => c :: l)) none) n)) (m := fun s => (9 - s.2.2.2.2.2.2.2.2).toNat) ?_ _ ⟨0, W, rfl, Nat.zero_le _, gf_r, fun _ _ _ _ _ => rfl, (Int.add_zero _).symm, (by show _ = lmn _ _ (-1); unfold lmn; rw [if_pos rfl]), fun _ _ _ => rfl, (by
    have e0 : fsn a W W q none := ⟨fun _ => rfl, rfl⟩
    split <;> exact e0)⟩
  rintro s ⟨j, T, rfl, jn, T1, T2, T3, T4, T5, T6⟩
  have hxT := rx_c hx T1
  obtain ⟨⟨y1, y2, y3⟩, y39, y40, y44, y45⟩ := id hxT
  rw [f_X12_goesOn_59e]
  unfold f_X12_goesOn_59c
  rw [dv_bn2 q_many, y1]
  by_cases e1 : (n : Int) ≤ (j : Int)
  · have ej : j = n := by omega
    subst ej
    rw [if_pos e1]
    exact Or.inr ⟨_, rfl, T, rfl, T1, T2, T3, T4, T5, T6⟩
  rw [if_neg e1]
  left
  have j9 : j < 9 := by omega
  have skip : ¬ okc sd pr noag w h (cw a W) (lfs p) j → ∃ t, (Sum.inl (T, r / 12, r % 12, r, a, p, q, k, (j : Int) + 1) : Sum (dV × Int × Int × Int × Int × Int × Int × Int × Int) dR) = Sum.inl t ∧ (∃ (j : Nat) (T : dV), t = (T, r / 12, r % 12, r, a, p, q, k, (j : Int)) ∧ j ≤ n ∧ gf a W T ∧ bsm a W T ∧ T a 41 0 = W a 41 0 + qs (fun c => ip (okc sd pr noag w h (cw a W) (lfs p) c) * sN sd pr noag w h n d' (nxC sd w h (cw a W) c) (wo1 (lfs p) c)) j ∧ T a 43 0 = lmn (W a 43 0) k (foC (fun c t => @ite Int (okc sd pr noag w h (cw a W) (lfs p) c) (Classical.propDecidable _) (mCh t (sL sd pr noag w h n d' (nxC sd w h (cw a W) c) (wo1 (lfs p) c)) (pr c (fbC (cw a W) w h))) t) j (-1)) ∧ (∀ i, 0 ≤ i → i < q → T a 35 i = W a 35 i) ∧ fsn a W T q (if W a 41 0 = 0 then foS (fun c => @ite (Option (List Nat)) (okc sd pr noag w h (cw a W) (lfs p) c) (Classical.propDecidable _) ((sF sd pr noag w h n d' (nxC sd w h (cw a W) c) (wo1 (lfs p) c)).map (fun l => c :: l)) none) j else none)) ∧ (9 - t.2.2.2.2.2.2.2.2).toNat < (9 - (j : Int)).toNat := fun g => by
    refine ⟨_, rfl, ⟨j + 1, T, by rw [Int.natCast_succ], by omega, T1, T2, ?_, ?_, T5, ?_⟩, by dsimp only; omega⟩
    · show _ = W a 41 0 + (qs _ j + ip (okc sd pr noag w h (cw a W) (lfs p) j) * sN sd pr noag w h n d' (nxC sd w h (cw a W) j) (wo1 (lfs p) j))
      rw [ip_0 g, Int.zero_mul, Int.add_zero]; exact T3
    · show _ = lmn _ _ (@ite Int (okc sd pr noag w h (cw a W) (lfs p) j) (Classical.propDecidable _) _ _)
      rw [if_neg g]; exact T4
    · have eo : foS (fun c => @ite (Option (List Nat)) (okc sd pr noag w h (cw a W) (lfs p) c) (Classical.propDecidable _) ((sF sd pr noag w h n d' (nxC sd w h (cw a W) c) (wo1 (lfs p) c)).map (fun l => c :: l)) none) (j + 1) = foS (fun c => @ite (Option (List Nat)) (okc sd pr noag w h (cw a W) (lfs p) c) (Classical.propDecidable _) ((sF sd pr noag w h n d' (nxC sd w h (cw a W) c) (wo1 (lfs p) c)).map (fun l => c :: l)) none) j := by
        show (match foS _ j with | some l => some l | none => @ite (Option (List Nat)) (okc sd pr noag w h (cw a W) (lfs p) j) (Classical.propDecidable _) _ none) = _
        rw [if_neg g]
        cases foS (fun c => @ite (Option (List Nat)) (okc sd pr noag w h (cw a W) (lfs p) c) (Classical.propDecidable _) ((sF sd pr noag w h n d' (nxC sd w h (cw a W) c) (wo1 (lfs p) c)).map (fun l => c :: l)) none) j <;> rfl
      rw [eo]; exact T6
  rw [dv_bn2 (q_isIn (by omega) (by omega)), Int.toNat_natCast]
  by_cases e2 : qb p j = true
  case neg =>
    rw [if_neg e2, if_pos rfl, bq]
    exact skip (fun g => e2 g.1)
  have eP : f_X12_priceAt T a (j : Int) r = (pr j r, ()) := by
    unfold f_X12_priceAt
    rw [bq, bq, bq, y3 j r (by omega) (hP j (by omega) e2) hr.2.2.1 hr.2.2.2]
  rw [if_pos e2, if_neg (show ¬ (1 : Int) = 0 by decide), dv_bn2 eP]
  by_cases e3 : pr j r = -1
  · rw [if_pos e3, bq]
    exact skip (fun g => by have := g.2.1; rw [er] at this; exact this e3)
  have s1 := hsd j (by omega)
  have b3 := hpr j r (by omega) hr.2.2.1 hr.2.2.2
  rw [if_neg e3, bq, bq, bq, bq, y2 j (by omega), y39, y40]
  obtain ⟨t, t1, t2, t3⟩ := q_isFree (V := T) (a := a) (s := sd j) (x := r % 12) (y := r / 12) (w := w) (h := h) (by omega)
  have key : t = 1 ↔ r % 12 + sd j ≤ w ∧ r / 12 + sd j ≤ h ∧ fpl (cw a W) (sd j) (r % 12) (r / 12) := by
    rw [t3]
    constructor
    · rintro ⟨k1, k2, k3⟩
      refine ⟨k1, k2, fun px py a0 a1 b0 b1 hcc => ?_⟩
      have g1 := qb_and0.mp (k3 py b0 b1) px.toNat (by omega)
      rw [T2 py (by omega) (by omega) px.toNat (by omega)] at g1
      exact g1 ⟨hcc, (qb_mk (by omega) s1.2 (by omega) (by omega) (by omega)).mpr (by omega)⟩
    · rintro ⟨k1, k2, k3⟩
      refine ⟨k1, k2, fun z z0 z1 => qb_and0.mpr (fun i hi g1 => ?_)⟩
      have g2 := (qb_mk (s := sd j) (x := r % 12) (by omega) s1.2 (by omega) (by omega) hi).mp g1.2
      rw [T2 z (by omega) (by omega) i hi] at g1
      refine k3 (i : Int) z (by omega) (by omega) z0 z1 ?_
      show qb (W a 29 z) (i : Int).toNat = true
      rw [Int.toNat_natCast]
      exact g1.1
  rw [dv_bn2 t1]
  by_cases e4 : t = 1
  case neg =>
    rw [if_neg (show ¬ t ≠ 0 from fun g => by omega), bq]
    exact skip (fun g => e4 (key.mpr (by have := g.2.2.1; rw [er] at this; exact this)))
  have pl := key.mp e4
  have ok : okc sd pr noag w h (cw a W) (lfs p) j := ⟨e2, by rw [er]; exact e3, by rw [er]; exact pl, trivial⟩
  rw [if_pos (show t ≠ 0 by omega), bq, bq, y2 j (by omega)]
  obtain ⟨U, u1, u2, u3⟩ := q_turns (V := T) (a := a) (s := sd j) (x := r % 12) (y := r / 12) (by omega)
  have F1 : gf a T (dv_u (dv_u U a 35 q (j : Int)) a 36 q r) := gf_t (gf_29 u2) (gf_t (gf_u (by decide)) (gf_u (by decide)))
  have hx1 := rx_c hxT F1
  have v29 : ∀ z, dv_u (dv_u U a 35 q (j : Int)) a 36 q r a 29 z = U a 29 z := fun z => by rw [u_j (by decide), u_j (by decide)]
  have v35 : ∀ i, dv_u (dv_u U a 35 q (j : Int)) a 36 q r a 35 i = if i = q then (j : Int) else T a 35 i := fun i => by
    rw [u_j (by decide)]
    by_cases ei : i = q
    · rw [if_pos ei, ei, u_e]
    · rw [if_neg ei, u_i ei, u2 a 35 i (fun g => absurd g.2 (by decide))]
  have v37 : ∀ i, dv_u (dv_u U a 35 q (j : Int)) a 36 q r a 37 i = T a 37 i := fun i => by
    rw [u_j (by decide), u_j (by decide), u2 a 37 i (fun g => absurd g.2 (by decide))]
  have v41 : dv_u (dv_u U a 35 q (j : Int)) a 36 q r a 41 0 = T a 41 0 := by
    rw [u_j (by decide), u_j (by decide), u2 a 41 0 (fun g => absurd g.2 (by decide))]
  have v42 : dv_u (dv_u U a 35 q (j : Int)) a 36 q r a 42 0 = T a 42 0 := by
    rw [u_j (by decide), u_j (by decide), u2 a 42 0 (fun g => absurd g.2 (by decide))]
  have v43 : dv_u (dv_u U a 35 q (j : Int)) a 36 q r a 43 0 = T a 43 0 := by
    rw [u_j (by decide), u_j (by decide), u2 a 43 0 (fun g => absurd g.2 (by decide))]
  have eP1 : f_X12_priceAt (dv_u (dv_u U a 35 q (j : Int)) a 36 q r) a (j : Int) r = (pr j r, ()) := by
    unfold f_X12_priceAt
    rw [bq, bq, bq, hx1.1.2.2 j r (by omega) (hP j (by omega) e2) hr.2.2.1 hr.2.2.2]
  rw [dv_bn2 u1, bq, bq, bq, bq, bq, bq, dv_bn2 eP1, bq]
  generalize hV1 : dv_u (dv_u U a 35 q (j : Int)) a 36 q r = V1 at *
  have hS := hsum j
  have hXj : ((9 ^ d' : Nat) : Int) * (j : Int) ≤ ((9 ^ d' : Nat) : Int) * 8 := Int.mul_le_mul_of_nonneg_left (by omega) (by omega)
  have e9 : ((9 ^ (d' + 1) : Nat) : Int) = ((9 ^ d' : Nat) : Int) * 9 := by rw [p9']; exact Int.natCast_mul _ _
  rw [dv_add_ok (by omega) (by omega) (by omega) (by omega) (by omega) (by omega)]
  have cS : ∀ c, c < n → (lfs (dv_and p (dv_xor (dv_shl 1 (j : Int)) (-1))) c ↔ wo1 (lfs p) j c) := fun c hc => by
    unfold lfs wo1
    rw [qb_off (j := (j : Int)) (by omega) (by omega) (by omega), Int.toNat_natCast]
    simp
  obtain ⟨W2, g0, g1, g2, g3, g4, g5, g6⟩ := hrc d' V1 (dv_and p (dv_xor (dv_shl 1 (j : Int)) (-1))) (q + 1) (k + pr j r) rfl hx1 (fun c hc g => hP c hc ((cS c hc).mp g).1) (by have := cnt_off (p := p) (j := (j : Int)) (by omega) (by omega) (by rw [Int.toNat_natCast]; exact e2); omega) (by omega) (by omega) (by rw [v41, T3]; omega)
  have cC : ∀ px py, 0 ≤ px → px < w → 0 ≤ py → py < h → (cw a V1 px py ↔ nxC sd w h (cw a W) j px py) := fun px py a0 a1 b0 b1 => by
    have k1 := t_cov (W := T) (U := U) (a := a) (s := sd j) (x := r % 12) (y := r / 12) s1 (by omega) (by omega) (by omega) (by omega) (fun px py a0 a1 b0 b1 hcc => pl.2.2 px py a0 a1 b0 b1 (by
      unfold cw at hcc ⊢
      rw [← T2 py (by omega) (by omega) px.toNat (by omega)]
      exact hcc)) u3 px py a0 (by omega) b0 (by omega)
    have k2 : cw a V1 px py ↔ cw a U px py := by unfold cw; rw [v29]
    rw [k2, k1]
    unfold nxC cvs
    rw [er]
    have k3 : cw a T px py ↔ cw a W px py := by unfold cw; rw [T2 py b0 (by omega) px.toNat (by omega)]
    rw [k3]
  have w12' := w12
  rw [sN_c w12 cC cS] at g3
  rw [sL_c w12 cC cS] at g4
  rw [sF_c w12 cC cS] at g6
  have s2 : W2 a 2 (29 + (j : Int)) = sd j := by
    rw [gf_m g1 (by decide)]; exact hx1.1.2.1 j (by omega)
  obtain ⟨U3, t4, t5, t6⟩ := q_turns (V := W2) (a := a) (s := sd j) (x := r % 12) (y := r / 12) (by omega)
  rw [dv_bn2 g0, bq, bq, s2, dv_bn2 t4, bq]
  have z35 : ∀ i, U3 a 35 i = W2 a 35 i := fun i => t5 a 35 i (fun g => absurd g.2 (by decide))
  have z37 : ∀ i, U3 a 37 i = W2 a 37 i := fun i => t5 a 37 i (fun g => absurd g.2 (by decide))
  have z42 : U3 a 42 0 = W2 a 42 0 := t5 a 42 0 (fun g => absurd g.2 (by decide))
  refine ⟨_, rfl, ⟨j + 1, U3, by rw [Int.natCast_succ], by omega, gf_t (gf_t T1 F1) (gf_t g1 (gf_29 t5)), fun py p0 p1 i hi => ?_, ?_, ?_, fun i i0 i1 => ?_, ?_⟩, by dsimp only; omega⟩
  · have k1 := t_back (W := T) (U := U) (U2 := W2) (U3 := U3) (a := a) (s := sd j) (x := r % 12) (y := r / 12) u3 (fun py p0 p1 i hi => by rw [g2 py p0 p1 i hi, v29]) t6 py p0 p1 i hi
    rw [k1]; exact T2 py p0 p1 i hi
  · show _ = W a 41 0 + (qs _ j + ip (okc sd pr noag w h (cw a W) (lfs p) j) * sN sd pr noag w h n d' (nxC sd w h (cw a W) j) (wo1 (lfs p) j))
    rw [ip_1 ok, Int.one_mul, t5 a 41 0 (fun g => absurd g.2 (by decide)), g3, v41, T3, Int.add_assoc]
  · show _ = lmn _ _ (@ite Int (okc sd pr noag w h (cw a W) (lfs p) j) (Classical.propDecidable _) _ _)
    rw [if_pos ok, t5 a 43 0 (fun g => absurd g.2 (by decide)), g4, v43, T4, er]
    exact lmn_s (by have := hfo j (by omega); rw [er] at this; exact this) (sL_b hs) (by omega)
  · rw [z35, g5 i i0 (by omega), v35, if_neg (by omega)]
    exact T5 i i0 i1
  · by_cases w0' : W a 41 0 = 0
    case neg =>
      rw [if_neg w0'] at T6 ⊢
      rw [if_neg (by rw [v41, T3]; omega)] at g6
      exact ⟨fun z => by rw [z37, g6.1 z, v37]; exact T6.1 z, by rw [z42, g6.2, v42]; exact T6.2⟩
    rw [if_pos w0'] at T6 ⊢
    have fo := fo_N (sd := sd) (pr := pr) (ag := noag) (w := w) (h := h) (d := d') (C := cw a W) (S := lfs p) n9 (fun _ _ => sF_N n9) j
    have es : foS (fun c => @ite (Option (List Nat)) (okc sd pr noag w h (cw a W) (lfs p) c) (Classical.propDecidable _) ((sF sd pr noag w h n d' (nxC sd w h (cw a W) c) (wo1 (lfs p) c)).map (fun l => c :: l)) none) (j + 1) = (match foS (fun c => @ite (Option (List Nat)) (okc sd pr noag w h (cw a W) (lfs p) c) (Classical.propDecidable _) ((sF sd pr noag w h n d' (nxC sd w h (cw a W) c) (wo1 (lfs p) c)).map (fun l => c :: l)) none) j with
      | some l => some l
      | none => (sF sd pr noag w h n d' (nxC sd w h (cw a W) j) (wo1 (lfs p) j)).map (fun l => j :: l)) := by
      show (match foS _ j with | some l => some l | none => @ite (Option (List Nat)) (okc sd pr noag w h (cw a W) (lfs p) j) (Classical.propDecidable _) _ none) = _
      rw [if_pos ok]
    rw [es]
    generalize foS (fun c => @ite (Option (List Nat)) (okc sd pr noag w h (cw a W) (lfs p) c) (Classical.propDecidable _) ((sF sd pr noag w h n d' (nxC sd w h (cw a W) c) (wo1 (lfs p) c)).map (fun l => c :: l)) none) j = oj at T6 fo ⊢
    cases oj with
    | some l =>
      have nz : ¬ V1 a 41 0 = 0 := fun g => by
        have := fo.mpr (by rw [v41, T3, w0'] at g; omega)
        cases this
      rw [if_neg nz] at g6
      obtain ⟨k1, k2, k3⟩ := T6
      exact ⟨by rw [z42, g6.2, v42]; exact k1, fun i i0 i1 => by rw [z37, g6.1, v37]; exact k2 i i0 i1, fun i hi => by rw [z37, g6.1, v37]; exact k3 i hi⟩
    | none =>
      have zz : V1 a 41 0 = 0 := by
        have := fo.mp rfl
        rw [v41, T3, w0', this]; rfl
      rw [if_pos zz] at g6
      generalize sF sd pr noag w h n d' (nxC sd w h (cw a W) j) (wo1 (lfs p) j) = oF at g6 ⊢
      cases oF with
      | none => exact ⟨fun z => by rw [z37, g6.1, v37]; exact T6.1 z, by rw [z42, g6.2, v42]; exact T6.2⟩
      | some l =>
        obtain ⟨k1, k2, k3⟩ := g6
        refine ⟨?_, fun i i0 i1 => ?_, fun i hi => ?_⟩
        · rw [z42, k1]
          show q + 1 + (l.length : Int) = q + (((j :: l).length : Nat) : Int)
          rw [List.length_cons]; omega
        · rw [z37, k2 i i0 (by omega), v35, if_neg (by omega)]
          exact T5 i i0 i1
        · cases i with
          | zero =>
            rw [z37]
            show W2 a 37 (q + ((0 : Nat) : Int)) = (j : Int)
            rw [show q + ((0 : Nat) : Int) = q by omega, k2 q q0 (by omega), v35, if_pos rfl]
          | succ i =>
            have hi' : i < l.length := by
              have h9 : i + 1 < (j :: l).length := hi
              rw [List.length_cons] at h9
              omega
            rw [z37]
            show W2 a 37 (q + ((i + 1 : Nat) : Int)) = ((l.getD i 0 : Nat) : Int)
            rw [show q + ((i + 1 : Nat) : Int) = q + 1 + (i : Int) by omega]
            exact k3 i hi'
theorem g_goes {P : Nat → Prop} (hs : rs n sd pr w h) : ∀ (d : Nat) (W : dV) (p q k : Int), rx a W P n sd pr w h → (∀ c, c < n → lfs p c → P c) → cnt p ≤ d → 0 ≤ q → (0 ≤ k ∧ k + 99 * (d : Int) ≤ 1000000) → (0 ≤ W a 41 0 ∧ W a 41 0 + ((9 ^ d : Nat) : Int) ≤ 2147483647) → ∃ W' : dV, f_X12_goesOn d W a p q k = (W', 0) ∧ gQ a W W' q k (sN sd pr noag w h n d (cw a W) (lfs p)) (sL sd pr noag w h n d (cw a W) (lfs p)) (sF sd pr noag w h n d (cw a W) (lfs p)) := by
  intro d
  induction d with
  | zero => exact fun W p q k hx hP hc q0 hk h41 => g_goesB (rc := fun _ _ _ _ _ => dv_z) hs (fun d' W p q k e => absurd e (by omega)) hx hP hc q0 hk h41
  | succ d ih => exact fun W p q k hx hP hc q0 hk h41 => g_goesB (rc := f_X12_goesOn d) hs (fun d' W1 p1 q1 k1 e y1 y2 y3 y4 y5 y6 => by
      have e2 : d' = d := by omega
      subst e2
      exact ih W1 p1 q1 k1 y1 y2 y3 y4 y5 y6) hx hP hc q0 hk h41
end QVC
section QVD
variable {V W W' W1 U : dV} {a p q k x y s w h z lx jd fl : Int} {A : Nat → Int} {n d c : Nat}
/-- what a carpet costs at a cell, by the law that is in force; -1: it may not lie there -/
noncomputable def prV (V : dV) (jd fl lx : Int) (c : Nat) (z : Int) : Int := if (f_X2_isBarred V jd lx fl (c : Int) (z % 12) (z / 12)).2 = 0 then (f_X2_costOf V jd lx fl (c : Int) (z % 12) (z / 12)).2 else -1
theorem prV_b (h : jd_ok V W jd (V jd 0 0) fl lx a) (hc : (c : Int) < V fl 7 0) (z0 : 0 ≤ z) (z1 : z < 144) : -1 ≤ prV V jd fl lx c z ∧ prV V jd fl lx c z ≤ 99 := by
  obtain ⟨V', W', t, v1, -, -, -, hy⟩ := q_bar (px := z % 12) (py := z / 12) h (by omega) hc (by omega) (by omega)
  obtain ⟨V2, W2, t2, v2, -, -, -, hy2⟩ := q_cost (px := z % 12) (py := z / 12) h (by omega) hc (by omega) (by omega)
  unfold prV
  rw [v1, v2]
  dsimp only
  split
  · omega
  · decide
/-- the prices of one carpet -/
theorem m_row (h : JX A a 4 V W) (hl : f_X8_forcedLaw V (A 1) = (lx, ())) (hc : (c : Int) < W a 2 69) (c9 : c < 9) : ∃ U' : dV, dv_lp f_X12_laysPrices_12b (W, a, p, (c : Int), 0) = Sum.inl (U', a, p, (c : Int) + 1) ∧ sf_fr a W U' ∧ (lfs p c → ∀ z, 0 ≤ z → z < 144 → U' a 34 (144 * (c : Int) + z) = prV V (A 13) (A 4) lx c z) ∧ ∀ z, ¬ (144 * (c : Int) ≤ z ∧ z < 144 * (c : Int) + 144) → U' a 34 z = W a 34 z := by
  refine dv_inv (b := f_X12_laysPrices_12b) (P := fun s => ∃ (U : dV) (j : Int), s = (U, a, p, (c : Int), j) ∧ 0 ≤ j ∧ j ≤ 144 ∧ sf_fr a W U ∧ (∀ z, 0 ≤ z → z < j → U a 34 (144 * (c : Int) + z) = prV V (A 13) (A 4) lx c z) ∧ ∀ z, ¬ (144 * (c : Int) ≤ z ∧ z < 144 * (c : Int) + 144) → U a 34 z = W a 34 z) (Q := fun q => ∃ U' : dV, q = Sum.inl (U', a, p, (c : Int) + 1) ∧ sf_fr a W U' ∧ (lfs p c → ∀ z, 0 ≤ z → z < 144 → U' a 34 (144 * (c : Int) + z) = prV V (A 13) (A 4) lx c z) ∧ ∀ z, ¬ (144 * (c : Int) ≤ z ∧ z < 144 * (c : Int) + 144) → U' a 34 z = W a 34 z) (m := fun s => (144 - s.2.2.2.2).toNat) ?_ _ ⟨W, 0, rfl, by decide, by decide, sf_r, fun z z0 z1 => absurd z1 (by omega), fun _ _ => rfl⟩
  rintro q ⟨U, j, rfl, j0, j1, hU, hz, ho⟩
  have hJ := JX_s h hU
  have e82 : f_X12_laysPrices_82 U a p (c : Int) = Sum.inr (Sum.inl (U, a, p, (c : Int) + 1)) := by
    unfold f_X12_laysPrices_82
    rw [bq]
  rw [f_X12_laysPrices_12e]
  unfold f_X12_laysPrices_12c
  by_cases e : 144 ≤ j
  · rw [if_pos e, e82]
    exact Or.inr ⟨_, rfl, U, rfl, hU, fun _ z z0 z1 => hz z z0 (by omega), ho⟩
  rw [if_neg e, dv_bn2 (q_isIn (by omega) (by omega)), Int.toNat_natCast]
  by_cases e1 : qb p c = true
  case neg =>
    rw [if_neg e1, if_pos rfl, e82]
    exact Or.inr ⟨_, rfl, U, rfl, hU, fun g => absurd g e1, ho⟩
  obtain ⟨-, hjd⟩ := JX_lx hJ hl
  have e7 := (ef9_n h.2.2.2.2.1.1).1
  have hcV : (c : Int) < V (A 4) 7 0 := by rw [e7]; exact hc
  obtain ⟨V1, U1, t, v1, u1, -, f1, -⟩ := q_bar (px := j % 12) (py := j / 12) hjd (by omega) hcV (by omega) (by omega)
  rw [if_pos e1, if_neg (by decide), bq, bq, bq, bq, dv_bn2 u1]
  have hU1 := sf_t hU (sf_te f1)
  have k34 : ∀ z, U1 a 34 z = U a 34 z := fun z => f1 a 34 z (fun g => absurd g.2 (by omega))
  have ep : prV V (A 13) (A 4) lx c j = if t = 0 then (f_X2_costOf V (A 13) lx (A 4) (c : Int) (j % 12) (j / 12)).2 else -1 := by
    unfold prV
    rw [v1]
  by_cases e2 : t = 0
  · obtain ⟨V2, U2, t2, v2, u2, -, f2, -⟩ := q_cost (px := j % 12) (py := j / 12) (JX_lx (JX_s h hU1) hl).2 (by omega) hcV (by omega) (by omega)
    rw [if_pos e2, v2] at ep
    have k2 : ∀ z, U2 a 34 z = U a 34 z := fun z => (f2 a 34 z (fun g => absurd g.2 (by omega))).trans (k34 z)
    rw [if_pos e2, dv_bn2 u2, bq, bq]
    refine Or.inl ⟨_, rfl, ⟨_, j + 1, rfl, by omega, by omega, sf_t (sf_t hU1 (sf_te f2)) (sf_u (by decide)), fun z z0 z1 => ?_, fun z hn => ?_⟩, by dsimp only; omega⟩
    · rw [u_if]
      by_cases ez : z = j
      · subst ez; rw [if_pos rfl, ep]
      · rw [if_neg (by omega), k2]; exact hz z z0 (by omega)
    · rw [u_if, if_neg (by omega), k2]; exact ho z hn
  · rw [if_neg e2] at ep
    rw [if_neg e2, bq, bq]
    refine Or.inl ⟨_, rfl, ⟨_, j + 1, rfl, by omega, by omega, sf_t hU1 (sf_u (by decide)), fun z z0 z1 => ?_, fun z hn => ?_⟩, by dsimp only; omega⟩
    · rw [u_if]
      by_cases ez : z = j
      · subst ez; rw [if_pos rfl, ep]
      · rw [if_neg (by omega), k34]; exact hz z z0 (by omega)
    · rw [u_if, if_neg (by omega), k34]; exact ho z hn
theorem m_prices (h : JX A a 4 V W) (hl : f_X8_forcedLaw V (A 1) = (lx, ())) (hn : W a 2 69 = (n : Int)) (n9 : n ≤ 9) : ∃ U' : dV, f_X12_laysPrices W a p = (U', 0) ∧ sf_fr a W U' ∧ ∀ (c : Nat) (z : Int), c < n → lfs p c → 0 ≤ z → z < 144 → U' a 34 (144 * (c : Int) + z) = prV V (A 13) (A 4) lx c z := by
  unfold f_X12_laysPrices
  refine dv_inv (b := f_X12_laysPrices_2b) (P := fun s => ∃ (U : dV) (j : Nat), s = (U, a, p, (j : Int)) ∧ j ≤ n ∧ sf_fr a W U ∧ ∀ (c : Nat) (z : Int), c < j → lfs p c → 0 ≤ z → z < 144 → U a 34 (144 * (c : Int) + z) = prV V (A 13) (A 4) lx c z) (Q := fun q => ∃ U' : dV, q = (U', 0) ∧ sf_fr a W U' ∧ ∀ (c : Nat) (z : Int), c < n → lfs p c → 0 ≤ z → z < 144 → U' a 34 (144 * (c : Int) + z) = prV V (A 13) (A 4) lx c z) (m := fun s => (9 - s.2.2.2).toNat) ?_ _ ⟨W, 0, rfl, Nat.zero_le _, sf_r, fun c z hc => absurd hc (by omega)⟩
  rintro q ⟨U, j, rfl, jn, hU, hz⟩
  rw [f_X12_laysPrices_2e]
  unfold f_X12_laysPrices_2c
  rw [dv_bn2 q_many, sf_2 hU, hn]
  by_cases e : (n : Int) ≤ (j : Int)
  · rw [if_pos e, show n = j by omega]
    exact Or.inr ⟨_, rfl, U, rfl, hU, hz⟩
  · obtain ⟨U1, r1, r2, r3, r4⟩ := m_row (p := p) (c := j) (JX_s h hU) hl (by rw [sf_2 hU, hn]; omega) (by omega)
    rw [if_neg e, r1]
    refine Or.inl ⟨_, rfl, ⟨U1, j + 1, by rw [Int.natCast_succ], by omega, sf_t hU r2, fun c z hc hp z0 z1 => ?_⟩, by dsimp only; omega⟩
    by_cases ec : c = j
    · subst ec; exact r3 hp z z0 z1
    · rw [r4 _ (by omega)]; exact hz c z (by omega) hp z0 z1
/-- the carpets that are rolled up and whole, as bits -/
theorem m_rolled (hn : W a 2 69 = (n : Int)) (n9 : n ≤ 9) : ∃ p : Int, f_X12_rolledWhole W a = (p, ()) ∧ ∀ i : Nat, i < 32 → (qb p i = true ↔ i < n ∧ W a 2 (9 + (i : Int)) = -1 ∧ 0 < W a 2 (i : Int)) := by
  unfold f_X12_rolledWhole
  refine dv_inv (b := f_X12_rolledWhole_4b) (P := fun s => ∃ (p : Int) (j : Nat), s = (W, a, p, (j : Int)) ∧ j ≤ n ∧ ∀ i : Nat, i < 32 → (qb p i = true ↔ i < j ∧ W a 2 (9 + (i : Int)) = -1 ∧ 0 < W a 2 (i : Int))) (Q := fun q => ∃ p : Int, q = (p, ()) ∧ ∀ i : Nat, i < 32 → (qb p i = true ↔ i < n ∧ W a 2 (9 + (i : Int)) = -1 ∧ 0 < W a 2 (i : Int))) (m := fun s => (9 - s.2.2.2).toNat) ?_ _ ⟨0, 0, rfl, Nat.zero_le _, fun i hi => by rw [qb_0]; exact ⟨fun g => (by cases g), fun g => absurd g.1 (by omega)⟩⟩
  rintro s ⟨p, j, rfl, jn, hp⟩
  rw [f_X12_rolledWhole_4e]
  unfold f_X12_rolledWhole_4c
  rw [dv_bn2 q_many, hn]
  by_cases e : (n : Int) ≤ (j : Int)
  · rw [if_pos e, show n = j by omega]
    exact Or.inr ⟨_, rfl, p, rfl, hp⟩
  rw [if_neg e]
  left
  have e36 : ∀ z : Int, f_X12_rolledWhole_36 W a (j : Int) p z = Sum.inl (W, a, dv_or p z, (j : Int) + 1) := fun z => by
    unfold f_X12_rolledWhole_36
    rw [bq, bq]
  have e35 : f_X12_rolledWhole_35 W a (j : Int) p = Sum.inl (W, a, dv_or p 0, (j : Int) + 1) := by
    unfold f_X12_rolledWhole_35
    rw [e36]
  have skip : ¬ (W a 2 (9 + (j : Int)) = -1 ∧ 0 < W a 2 (j : Int)) → ∃ t, (Sum.inl (W, a, dv_or p 0, (j : Int) + 1) : Sum (dV × Int × Int × Int) dP) = Sum.inl t ∧ (∃ (p : Int) (j : Nat), t = (W, a, p, (j : Int)) ∧ j ≤ n ∧ ∀ i : Nat, i < 32 → (qb p i = true ↔ i < j ∧ W a 2 (9 + (i : Int)) = -1 ∧ 0 < W a 2 (i : Int))) ∧ (9 - t.2.2.2).toNat < (9 - (j : Int)).toNat := fun g => by
    refine ⟨_, rfl, ⟨_, j + 1, by rw [Int.natCast_succ], by omega, fun i hi => ?_⟩, by dsimp only; omega⟩
    rw [qb_or, qb_0, Bool.or_false, hp i hi]
    constructor
    · rintro ⟨a1, a2⟩; exact ⟨by omega, a2⟩
    · rintro ⟨a1, a2⟩
      refine ⟨?_, a2⟩
      by_cases ei : i = j
      · subst ei; exact absurd a2 g
      · omega
  by_cases l : W a 2 (9 + (j : Int)) = -1
  case neg =>
    rw [dv_bn2 (ml_1 l), if_pos (by decide), e35]
    exact skip (fun g => l g.1)
  rw [dv_bn2 (ml_0 l), if_neg (fun g => g rfl), dv_bn2 q_mWhole]
  by_cases m : 0 < W a 2 (j : Int)
  case neg =>
    rw [if_neg m, if_pos rfl, e35]
    exact skip (fun g => m g.2)
  rw [if_pos m, if_neg (by decide), bq, e36]
  refine ⟨_, rfl, ⟨_, j + 1, by rw [Int.natCast_succ], by omega, fun i hi => ?_⟩, by dsimp only; omega⟩
  have h1 := qb_s1 ⟨j, by omega⟩ ⟨i, hi⟩
  try simp only at h1
  rw [qb_or, Bool.or_eq_true, hp i hi, h1]
  constructor
  · rintro (⟨a1, a2⟩ | g)
    · exact ⟨by omega, a2⟩
    · have ei : i = j := by simpa using g
      subst ei
      exact ⟨by omega, l, m⟩
  · rintro ⟨a1, a2⟩
    by_cases ei : i = j
    · right; simpa using ei
    · left; exact ⟨by omega, a2⟩
/-- what the reference finds of all fills -/
theorem m_now (hR : RR A a V W) (hl : f_X8_forcedLaw V (A 1) = (lx, ())) : ∃ W' : dV, f_X12_fillsNow W a 0 = (W', 0) ∧ sf_fr a W W' ∧ W' a 41 0 = sN (fun c => V (A 4) 0 (c : Int)) (prV V (A 13) (A 4) lx) noag (V (A 4) 8 0) (V (A 4) 9 0) (V (A 4) 7 0).toNat 9 (cvd (V (A 4)) (V (A 4) 7 0)) (fun c => V (A 4) 3 (c : Int) = -1 ∧ 0 < V (A 4) 2 (c : Int)) ∧ W' a 43 0 = lmn 1000000 0 (sL (fun c => V (A 4) 0 (c : Int)) (prV V (A 13) (A 4) lx) noag (V (A 4) 8 0) (V (A 4) 9 0) (V (A 4) 7 0).toNat 9 (cvd (V (A 4)) (V (A 4) 7 0)) (fun c => V (A 4) 3 (c : Int) = -1 ∧ 0 < V (A 4) 2 (c : Int))) ∧ ∃ T : dV, T a 41 0 = 0 ∧ fsn a T W' 0 (sF (fun c => V (A 4) 0 (c : Int)) (prV V (A 13) (A 4) lx) noag (V (A 4) 8 0) (V (A 4) 9 0) (V (A 4) 7 0).toNat 9 (cvd (V (A 4)) (V (A 4) 7 0)) (fun c => V (A 4) 3 (c : Int) = -1 ∧ 0 < V (A 4) 2 (c : Int))) := by
  have h := RR_JX hR
  obtain ⟨kk, e7, e8, e9, -, -, -, -, ec⟩ := RR_n hR
  have n9 := kk.1.1
  have hn : W a 2 69 = (((V (A 4) 7 0).toNat : Nat) : Int) := by omega
  obtain ⟨p, p1, p2⟩ := m_rolled (W := W) (a := a) hn (by omega)
  obtain ⟨U1, a1, b1, c1⟩ := m_prices (p := p) h hl hn (by omega)
  have hR1 : RR A a V U1 := RR_sk hR (sk_s b1)
  obtain ⟨U2, a2, b2, c2⟩ := RR_cover hR1
  have F2 := sf_t b1 (sf_29 b2)
  unfold f_X12_fillsNow
  rw [dv_bn2 p1, dv_bn2 a1, dv_bn2 a2, bq, bq]
  unfold f_X12_goesThrough
  rw [bq, bq, bq, bq, bq, bq, bq]
  have G2 : ∀ z, U2 a 2 z = W a 2 z := sf_2 F2
  have w67 : dv_u (dv_u U2 a 44 0 0) a 45 0 0 a 2 67 = V (A 4) 8 0 := by rw [u_j (by decide), u_j (by decide), G2, e8]
  have w68 : dv_u (dv_u U2 a 44 0 0) a 45 0 0 a 2 68 = V (A 4) 9 0 := by rw [u_j (by decide), u_j (by decide), G2, e9]
  rw [w67, w68]
  have F5 : sf_fr a U2 (dv_u (dv_u (dv_u (dv_u (dv_u (dv_u (dv_u U2 a 44 0 0) a 45 0 0) a 39 0 (V (A 4) 8 0)) a 40 0 (V (A 4) 9 0)) a 41 0 0) a 42 0 0) a 43 0 1000000) := sf_t (sf_t (sf_t (sf_t (sf_t (sf_t (sf_u (by decide)) (sf_u (by decide))) (sf_u (by decide))) (sf_u (by decide))) (sf_u (by decide))) (sf_u (by decide))) (sf_u (by decide))
  have t29 : ∀ z, dv_u (dv_u (dv_u (dv_u (dv_u (dv_u (dv_u U2 a 44 0 0) a 45 0 0) a 39 0 (V (A 4) 8 0)) a 40 0 (V (A 4) 9 0)) a 41 0 0) a 42 0 0) a 43 0 1000000 a 29 z = U2 a 29 z := fun z => by
    rw [u_j (by decide), u_j (by decide), u_j (by decide), u_j (by decide), u_j (by decide), u_j (by decide), u_j (by decide)]
  have t34 : ∀ z, dv_u (dv_u (dv_u (dv_u (dv_u (dv_u (dv_u U2 a 44 0 0) a 45 0 0) a 39 0 (V (A 4) 8 0)) a 40 0 (V (A 4) 9 0)) a 41 0 0) a 42 0 0) a 43 0 1000000 a 34 z = U2 a 34 z := fun z => by
    rw [u_j (by decide), u_j (by decide), u_j (by decide), u_j (by decide), u_j (by decide), u_j (by decide), u_j (by decide)]
  have t39 : dv_u (dv_u (dv_u (dv_u (dv_u (dv_u (dv_u U2 a 44 0 0) a 45 0 0) a 39 0 (V (A 4) 8 0)) a 40 0 (V (A 4) 9 0)) a 41 0 0) a 42 0 0) a 43 0 1000000 a 39 0 = V (A 4) 8 0 := by
    rw [u_j (by decide), u_j (by decide), u_j (by decide), u_j (by decide), u_e]
  have t40 : dv_u (dv_u (dv_u (dv_u (dv_u (dv_u (dv_u U2 a 44 0 0) a 45 0 0) a 39 0 (V (A 4) 8 0)) a 40 0 (V (A 4) 9 0)) a 41 0 0) a 42 0 0) a 43 0 1000000 a 40 0 = V (A 4) 9 0 := by
    rw [u_j (by decide), u_j (by decide), u_j (by decide), u_e]
  have t41 : dv_u (dv_u (dv_u (dv_u (dv_u (dv_u (dv_u U2 a 44 0 0) a 45 0 0) a 39 0 (V (A 4) 8 0)) a 40 0 (V (A 4) 9 0)) a 41 0 0) a 42 0 0) a 43 0 1000000 a 41 0 = 0 := by
    rw [u_j (by decide), u_j (by decide), u_e]
  have t43 : dv_u (dv_u (dv_u (dv_u (dv_u (dv_u (dv_u U2 a 44 0 0) a 45 0 0) a 39 0 (V (A 4) 8 0)) a 40 0 (V (A 4) 9 0)) a 41 0 0) a 42 0 0) a 43 0 1000000 a 43 0 = 1000000 := u_e
  have t44 : dv_u (dv_u (dv_u (dv_u (dv_u (dv_u (dv_u U2 a 44 0 0) a 45 0 0) a 39 0 (V (A 4) 8 0)) a 40 0 (V (A 4) 9 0)) a 41 0 0) a 42 0 0) a 43 0 1000000 a 44 0 = 0 := by
    rw [u_j (by decide), u_j (by decide), u_j (by decide), u_j (by decide), u_j (by decide), u_j (by decide), u_e]
  have t45 : dv_u (dv_u (dv_u (dv_u (dv_u (dv_u (dv_u U2 a 44 0 0) a 45 0 0) a 39 0 (V (A 4) 8 0)) a 40 0 (V (A 4) 9 0)) a 41 0 0) a 42 0 0) a 43 0 1000000 a 45 0 = 0 := by
    rw [u_j (by decide), u_j (by decide), u_j (by decide), u_j (by decide), u_j (by decide), u_e]
  generalize dv_u (dv_u (dv_u (dv_u (dv_u (dv_u (dv_u U2 a 44 0 0) a 45 0 0) a 39 0 (V (A 4) 8 0)) a 40 0 (V (A 4) 9 0)) a 41 0 0) a 42 0 0) a 43 0 1000000 = T at *
  have T2 : ∀ z, T a 2 z = W a 2 z := fun z => (sf_2 F5 z).trans (G2 z)
  obtain ⟨-, hjd⟩ := JX_lx h hl
  have hj0 : jd_ok V W (A 13) (V (A 13) 0 0) (A 4) lx a := by
    have e := hjd.1
    rw [e]; exact hjd
  have hs : rs (V (A 4) 7 0).toNat (fun c => V (A 4) 0 (c : Int)) (prV V (A 13) (A 4) lx) (V (A 4) 8 0) (V (A 4) 9 0) := ⟨by omega, kk.1.2.1, kk.1.2.2.1, fun c hc => ⟨(kk.2.2.1 c (by omega) (by omega)).1, (kk.1.2.2.2 c (by omega) (by omega)).1.2⟩, fun c z hc z0 z1 => prV_b hj0 (by omega) z0 z1⟩
  have hx : rx a T (lfs p) (V (A 4) 7 0).toNat (fun c => V (A 4) 0 (c : Int)) (prV V (A 13) (A 4) lx) (V (A 4) 8 0) (V (A 4) 9 0) := ⟨⟨by rw [T2]; exact hn, fun c hc => by rw [T2]; exact ((ec c (by omega) (by omega)).1).symm, fun c z hc hP z0 z1 => by
    rw [t34, b2 a 34 _ (fun g => absurd g.2 (by decide))]
    exact c1 c z hc hP z0 z1⟩, t39, t40, t44, t45⟩
  obtain ⟨W', g0, g1, g2, g3, g4, g5, g6⟩ := g_goes hs 9 T p 0 0 hx (fun c _ g => g) cnt_9 (by decide) (by decide) (by rw [t41]; decide)
  rw [t41] at g3 g6
  rw [t43] at g4
  rw [if_pos rfl] at g6
  have cC : ∀ px py, 0 ≤ px → px < V (A 4) 8 0 → 0 ≤ py → py < V (A 4) 9 0 → (cw a T px py ↔ cvd (V (A 4)) (V (A 4) 7 0) px py) := fun px py a0 a1 b0 b1 => by
    have w8 := kk.1.2.1
    have w9 := kk.1.2.2.1
    have k1 := c2 py b0 (by omega) px.toNat (by omega)
    rw [show ((px.toNat : Nat) : Int) = px by omega] at k1
    unfold cw
    rw [t29]
    exact k1
  have cS : ∀ c, c < (V (A 4) 7 0).toNat → (lfs p c ↔ (V (A 4) 3 (c : Int) = -1 ∧ 0 < V (A 4) 2 (c : Int))) := fun c hc => by
    obtain ⟨-, -, q2, q3, -⟩ := ec c (by omega) (by omega)
    unfold lfs
    rw [p2 c (by omega), q2, q3]
    exact ⟨fun g => g.2, fun g => ⟨hc, g⟩⟩
  have w12 : V (A 4) 8 0 ≤ 12 := kk.1.2.1.2
  rw [sN_c w12 cC cS, Int.zero_add] at g3
  rw [sL_c w12 cC cS] at g4
  rw [sF_c w12 cC cS] at g6
  rw [dv_bn2 g0]
  refine ⟨W', rfl, ?_, g3, g4, T, t41, g6⟩
  exact sf_t (sf_t F2 F5) (fun b m z q => g1 b m z (fun e => q ⟨e.1, by have := e.2; omega⟩))
end QVD
end
section
section QVE
variable {a b k v x y s c top j p : Int} {i m n : Nat}
/-- bit i of a number of 64 bits -/
def lbk (k : Int) (i : Nat) : Bool := (Int64.ofInt k).toBitVec.getLsbD i
theorem lb_and : lbk (dv_land a b) i = (lbk a i && lbk b i) := by
  unfold lbk dv_land
  rw [Int64.ofInt_toInt, Int64.toBitVec_and, BitVec.getLsbD_and]
theorem lb_or : lbk (dv_lor a b) i = (lbk a i || lbk b i) := by
  unfold lbk dv_lor
  rw [Int64.ofInt_toInt, Int64.toBitVec_or, BitVec.getLsbD_or]
theorem lb_xor : lbk (dv_lxor a b) i = (lbk a i ^^ lbk b i) := by
  unfold lbk dv_lxor
  rw [Int64.ofInt_toInt, Int64.toBitVec_xor, BitVec.getLsbD_xor]
theorem sm_64 : ∀ j : Fin 64, (((Int32.ofInt (j.1 : Int)).toInt64 &&& 63).toBitVec.smod 64).toNat = j.1 := by decide +kernel
theorem um_64 : ∀ j : Fin 64, ((UInt64.mod ((Int32.ofInt (j.1 : Int)).toInt64.toUInt64 &&& Int64.toUInt64 63) 64).toBitVec).toNat = j.1 := by decide +kernel
theorem lb_shl (j0 : 0 ≤ j) (j1 : j < 64) (hi : i < 64) : lbk (dv_lshl v j) i = (!decide (i < j.toNat) && lbk v (i - j.toNat)) := by
  unfold lbk dv_lshl
  have h := sm_64 ⟨j.toNat, by omega⟩
  simp only [show ((j.toNat : Nat) : Int) = j by omega] at h
  rw [Int64.ofInt_toInt]
  show ((Int64.ofInt v).toBitVec <<< (((Int32.ofInt j).toInt64 &&& 63).toBitVec.smod 64)).getLsbD i = _
  rw [BitVec.shiftLeft_eq', h, BitVec.getLsbD_shiftLeft]
  have e1 : decide (i < 64) = true := by simpa using hi
  rw [e1, Bool.true_and]
theorem ushr_n (j0 : 0 ≤ j) (j1 : j < 64) : (Int64.ofInt (dv_lushr v j)).toBitVec.toNat = (Int64.ofInt v).toBitVec.toNat >>> j.toNat := by
  unfold dv_lushr
  have h := um_64 ⟨j.toNat, by omega⟩
  simp only [show ((j.toNat : Nat) : Int) = j by omega] at h
  rw [Int64.ofInt_toInt]
  show ((Int64.ofInt v).toBitVec >>> ((UInt64.mod ((Int32.ofInt j).toInt64.toUInt64 &&& Int64.toUInt64 63) 64).toBitVec)).toNat = _
  rw [BitVec.ushiftRight_eq', h, BitVec.toNat_ushiftRight]
theorem lb_ushr (j0 : 0 ≤ j) (j1 : j < 64) : lbk (dv_lushr v j) i = lbk v (j.toNat + i) := by
  unfold lbk
  rw [← BitVec.testBit_toNat, ← BitVec.testBit_toNat, ushr_n j0 j1, Nat.testBit_shiftRight]
theorem lb_m1 : ∀ i : Fin 64, lbk (-1) i.1 = true := by decide +kernel
theorem lb_0 : lbk 0 i = false := by
  unfold lbk
  rw [show Int64.ofInt 0 = 0 from rfl]
  simp
/-- up to where the key says that column x is filled -/
def ct (k x : Int) : Nat := ((Int64.ofInt k).toBitVec.toNat >>> (4 * x).toNat) % 16
theorem ct_lt : ct k x < 16 := Nat.mod_lt _ (by decide)
theorem ct_b (hm : m < 4) : (ct k x).testBit m = lbk k ((4 * x).toNat + m) := by
  unfold ct lbk
  rw [show (16 : Nat) = 2 ^ 4 from rfl, Nat.testBit_mod_two_pow, Nat.testBit_shiftRight, BitVec.testBit_toNat]
  simp [hm]
theorem ct_e {t : Nat} (ht : t < 16) (h : ∀ m, m < 4 → lbk k ((4 * x).toNat + m) = t.testBit m) : ct k x = t := by
  refine Nat.eq_of_testBit_eq (fun m => ?_)
  by_cases hm : m < 4
  · rw [ct_b hm, h m hm]
  · have h2 : ∀ u : Nat, u < 16 → u.testBit m = false := fun u hu => Nat.testBit_lt_two_pow (Nat.lt_of_lt_of_le hu (show 2 ^ 4 ≤ 2 ^ m from Nat.pow_le_pow_right (by decide) (by omega)) )
    rw [h2 _ ct_lt, h2 _ ht]
theorem and_nn {u : Int64} {M : Nat} (h : u.toBitVec.toNat = M) (hM : M < 2 ^ 63) : u.toInt = (M : Int) := by
  rw [← Int64.toInt_toBitVec, BitVec.toInt_eq_toNat_of_lt (by rw [h]; omega), h]
theorem q_ct (x0 : 0 ≤ x) (x1 : x ≤ 11) : dv_land (dv_lushr k (4 * x)) 15 = (ct k x : Int) := by
  have h1 : (Int64.ofInt (dv_lushr k (4 * x)) &&& Int64.ofInt 15).toBitVec.toNat = ct k x := by
    rw [Int64.toBitVec_and, BitVec.toNat_and, ushr_n (by omega) (by omega)]
    show _ &&& (2 ^ 4 - 1) = _
    rw [Nat.and_two_pow_sub_one_eq_mod]
    rfl
  unfold dv_land
  have := ct_lt (k := k) (x := x)
  exact and_nn h1 (by omega)
theorem q_us (c0 : 0 ≤ c) (c1 : c ≤ 8) : dv_land (dv_lushr k (dv_add 48 c)) 1 = if lbk k (48 + c.toNat) then 1 else 0 := by
  rw [dv_add_ok (by omega) (by omega) (by omega) (by omega) (by omega) (by omega)]
  have h1 : (Int64.ofInt (dv_lushr k (48 + c)) &&& Int64.ofInt 1).toBitVec.toNat = (if lbk k (48 + c.toNat) then 1 else 0) := by
    rw [Int64.toBitVec_and, BitVec.toNat_and, ushr_n (by omega) (by omega)]
    show _ &&& (2 ^ 1 - 1) = _
    rw [Nat.and_two_pow_sub_one_eq_mod]
    unfold lbk
    rw [← BitVec.testBit_toNat, show 48 + c.toNat = (48 + c).toNat by omega]
    generalize (Int64.ofInt k).toBitVec.toNat = N
    rw [Nat.testBit_eq_decide_div_mod_eq, Nat.shiftRight_eq_div_pow]
    have : N / 2 ^ (48 + c).toNat % 2 < 2 := Nat.mod_lt _ (by decide)
    by_cases e : N / 2 ^ (48 + c).toNat % 2 = 1
    · simp [e]
    · have e0 : N / 2 ^ (48 + c).toNat % 2 = 0 := by omega
      simp [e0]
  unfold dv_land
  rw [and_nn h1 (by split <;> decide)]
  split <;> rfl
theorem M_b : ∀ s : Fin 13, ∀ i : Fin 64, lbk (dv_lsub (dv_lshl 1 (4 * (s.1 : Int))) 1) i.1 = decide (i.1 < 4 * s.1) := by decide +kernel
theorem T_b : ∀ t : Fin 16, ∀ i : Fin 48, lbk (dv_lmul (t.1 : Int) 18764998447377) i.1 = t.1.testBit (i.1 % 4) := by decide +kernel
theorem U_b : ∀ c : Fin 9, ∀ i : Fin 64, lbk (dv_lshl 1 (48 + (c.1 : Int))) i.1 = decide (i.1 = 48 + c.1) := by decide +kernel
/-- a carpet more in the key -/
theorem k_with (s0 : 1 ≤ s) (x0 : 0 ≤ x) (xs : x + s ≤ 12) (t0 : 0 ≤ top) (t1 : top ≤ 12) (c0 : 0 ≤ c) (c1 : c ≤ 8) : ∃ k' : Int, dv_lor (dv_lor (dv_land k (dv_lxor (dv_lshl (dv_lsub (dv_lshl 1 (4 * s)) 1) (4 * x)) (-1))) (dv_land (dv_lshl (dv_lmul top 18764998447377) (4 * x)) (dv_lshl (dv_lsub (dv_lshl 1 (4 * s)) 1) (4 * x)))) (dv_lshl 1 (48 + c)) = k' ∧ (∀ z : Int, 0 ≤ z → z < 12 → (ct k' z : Int) = if x ≤ z ∧ z < x + s then top else (ct k z : Int)) ∧ (∀ i : Nat, i < 9 → lbk k' (48 + i) = (lbk k (48 + i) || decide ((i : Int) = c))) ∧ ∀ i : Nat, 57 ≤ i → i < 64 → lbk k' i = lbk k i := by
  refine ⟨_, rfl, ?_, ?_, ?_⟩
  all_goals
    have hM : ∀ i : Nat, i < 64 → lbk (dv_lshl (dv_lsub (dv_lshl 1 (4 * s)) 1) (4 * x)) i = (decide (4 * x ≤ (i : Int) ∧ (i : Int) < 4 * (x + s))) := fun i hi => by
      rw [lb_shl (by omega) (by omega) hi]
      by_cases e : i < (4 * x).toNat
      · have : ¬ (4 * x ≤ (i : Int) ∧ (i : Int) < 4 * (x + s)) := by omega
        simp [e, this]
      · have h := M_b ⟨s.toNat, by omega⟩ ⟨i - (4 * x).toNat, by omega⟩
        simp only [show ((s.toNat : Nat) : Int) = s by omega] at h
        rw [h]
        have e2 : decide (i < (4 * x).toNat) = false := by simpa using e
        rw [e2, Bool.not_false, Bool.true_and]
        congr 1
        apply propext
        omega
    have hT : ∀ i : Nat, i < 48 → 4 * x ≤ (i : Int) → lbk (dv_lshl (dv_lmul top 18764998447377) (4 * x)) i = top.toNat.testBit (i % 4) := fun i hi hx => by
      rw [lb_shl (by omega) (by omega) (by omega)]
      have h := T_b ⟨top.toNat, by omega⟩ ⟨i - (4 * x).toNat, by omega⟩
      simp only [show ((top.toNat : Nat) : Int) = top by omega] at h
      rw [h]
      have e2 : decide (i < (4 * x).toNat) = false := by simp; omega
      rw [e2, Bool.not_false, Bool.true_and, show (i - (4 * x).toNat) % 4 = i % 4 by omega]
    have hU : ∀ i : Nat, i < 64 → lbk (dv_lshl 1 (48 + c)) i = decide ((i : Int) = 48 + c) := fun i hi => by
      have h := U_b ⟨c.toNat, by omega⟩ ⟨i, hi⟩
      simp only [show ((c.toNat : Nat) : Int) = c by omega] at h
      rw [h]
      congr 1
      apply propext
      omega
    have hb : ∀ i : Nat, i < 64 → lbk (dv_lor (dv_lor (dv_land k (dv_lxor (dv_lshl (dv_lsub (dv_lshl 1 (4 * s)) 1) (4 * x)) (-1))) (dv_land (dv_lshl (dv_lmul top 18764998447377) (4 * x)) (dv_lshl (dv_lsub (dv_lshl 1 (4 * s)) 1) (4 * x)))) (dv_lshl 1 (48 + c))) i = (if 4 * x ≤ (i : Int) ∧ (i : Int) < 4 * (x + s) then top.toNat.testBit (i % 4) else (lbk k i || decide ((i : Int) = 48 + c))) := fun i hi => by
      rw [lb_or, lb_or, lb_and, lb_and, lb_xor, hM i hi, hU i hi, lb_m1 ⟨i, hi⟩]
      by_cases e : 4 * x ≤ (i : Int) ∧ (i : Int) < 4 * (x + s)
      · rw [if_pos e, hT i (by omega) e.1]
        have e1 : decide (4 * x ≤ (i : Int) ∧ (i : Int) < 4 * (x + s)) = true := by simpa using e
        have e2 : decide ((i : Int) = 48 + c) = false := by simp; omega
        rw [e1, e2]
        simp
      · rw [if_neg e]
        have e1 : decide (4 * x ≤ (i : Int) ∧ (i : Int) < 4 * (x + s)) = false := by simpa using e
        rw [e1]
        simp
  · intro z z0 z1
    by_cases e : x ≤ z ∧ z < x + s
    · rw [if_pos e, ct_e (t := top.toNat) (by omega) (fun m hm => by
        rw [hb _ (by omega), if_pos (by omega)]
        congr 1
        omega)]
      omega
    · rw [if_neg e, ct_e (t := ct k z) ct_lt (fun m hm => by
        rw [hb _ (by omega), if_neg (by omega), ct_b hm]
        have e2 : decide ((((4 * z).toNat + m : Nat) : Int) = 48 + c) = false := by simp; omega
        rw [e2, Bool.or_false])]
  · intro i hi
    rw [hb _ (by omega), if_neg (by omega)]
    congr 1
    congr 1
    apply propext
    omega
  · intro i h57 hi
    rw [hb i hi, if_neg (by omega)]
    have e2 : decide ((i : Int) = 48 + c) = false := by simp; omega
    rw [e2, Bool.or_false]
end QVE
section QVF
variable {V : dV} {sa fl k x y s c w h z r f cell : Int} {n m : Nat} {C : Int → Int → Prop}
/-- what is covered, by the floor's rows and the key -/
def cvk (V : dV) (fl k : Int) : Int → Int → Prop := fun px py => qb (V fl 6 py) px.toNat = true ∨ py < (ct k px : Int)
theorem lc_p {a b : Int} : 0 < dv_lcmp a b ↔ b < a := by
  unfold dv_lcmp
  split
  · omega
  · split <;> omega
theorem q_isBare (hf : V sa 8 0 = fl) (c0 : 0 ≤ cell) (c1 : cell < 144) : ∃ t : Int, f_X7_isBare V sa k cell = (t, ()) ∧ (t = 1 ∨ t = 0) ∧ (t = 1 ↔ cell % 12 < V fl 8 0 ∧ cell / 12 < V fl 9 0 ∧ ¬ cvk V fl k (cell % 12) (cell / 12)) := by
  unfold f_X7_isBare
  rw [bq, bq, bq, hf, bq]
  by_cases e1 : V fl 8 0 ≤ cell % 12
  · rw [if_pos e1]; exact ⟨0, rfl, Or.inr rfl, fun g => absurd g (by decide), fun g => absurd g.1 (by omega)⟩
  rw [if_neg e1, bq, bq]
  by_cases e2 : V fl 9 0 ≤ cell / 12
  · rw [if_pos e2]; exact ⟨0, rfl, Or.inr rfl, fun g => absurd g (by decide), fun g => absurd g.2.1 (by omega)⟩
  rw [if_neg e2, bq, bq, bq, bq]
  have hb : dv_and (dv_shr (V fl 6 (cell / 12)) (cell % 12)) 1 = 0 ↔ ¬ qb (V fl 6 (cell / 12)) (cell % 12).toNat = true := by
    rw [and_1z, qb_shr (by omega) (by omega), Bool.not_eq_true]
  by_cases e3 : dv_and (dv_shr (V fl 6 (cell / 12)) (cell % 12)) 1 = 0
  case neg =>
    rw [if_pos e3]
    exact ⟨0, rfl, Or.inr rfl, fun g => absurd g (by decide), fun g => absurd (Or.inl (Classical.byContradiction (fun q => e3 (hb.mpr q)))) g.2.2⟩
  rw [if_neg (fun g => g e3), bq, bq, bq, bq, bq, q_ct (by omega) (by omega)]
  by_cases e4 : cell / 12 < (ct k (cell % 12) : Int)
  · rw [if_pos (lc_p.mpr e4)]
    exact ⟨0, rfl, Or.inr rfl, fun g => absurd g (by decide), fun g => absurd (Or.inr e4) g.2.2⟩
  · rw [if_neg (fun g => e4 (lc_p.mp g))]
    refine ⟨1, rfl, Or.inl rfl, fun _ => ⟨by omega, by omega, fun g => ?_⟩, fun _ => rfl⟩
    rcases g with g | g
    · exact hb.mp e3 g
    · exact e4 g
theorem q_first (hf : V sa 8 0 = fl) (w0 : V fl 8 0 ≤ 12) (h0 : V fl 9 0 ≤ 12) (f0 : 0 ≤ f) (f1 : f ≤ 144) (hp : ∀ px py, 0 ≤ px → px < V fl 8 0 → 0 ≤ py → py < V fl 9 0 → 12 * py + px < f → cvk V fl k px py) : ∃ r : Int, f_X7_firstBare V sa k f = (r, ()) ∧ fb1 (cvk V fl k) (V fl 8 0) (V fl 9 0) r := by
  unfold f_X7_firstBare
  refine dv_inv (b := f_X7_firstBare_3b) (P := fun q => ∃ j : Int, q = (V, sa, k, j) ∧ 0 ≤ j ∧ j ≤ 144 ∧ ∀ px py, 0 ≤ px → px < V fl 8 0 → 0 ≤ py → py < V fl 9 0 → 12 * py + px < j → cvk V fl k px py) (Q := fun q => ∃ r : Int, q = (r, ()) ∧ fb1 (cvk V fl k) (V fl 8 0) (V fl 9 0) r) (m := fun q => (144 - q.2.2.2).toNat) ?_ _ ⟨f, rfl, f0, f1, hp⟩
  rintro q ⟨j, rfl, j0, j1, hz⟩
  rw [f_X7_firstBare_3e]
  unfold f_X7_firstBare_3c
  by_cases e : 144 ≤ j
  · rw [if_pos e]
    exact Or.inr ⟨_, rfl, -1, rfl, Or.inl ⟨rfl, fun px py a b c d => hz px py a b c d (by omega)⟩⟩
  obtain ⟨t, t1, t2, t3⟩ := q_isBare (V := V) (sa := sa) (k := k) hf j0 (show j < 144 by omega)
  rw [if_neg e, dv_bn2 t1]
  by_cases e2 : t = 0
  · rw [if_pos e2, bq]
    refine Or.inl ⟨_, rfl, ⟨j + 1, rfl, by omega, by omega, fun px py a b c d g => ?_⟩, by dsimp only; omega⟩
    by_cases e3 : 12 * py + px = j
    · have m1 : px = j % 12 := by omega
      have m2 : py = j / 12 := by omega
      refine Classical.byContradiction (fun g2 => ?_)
      have := t3.mpr ⟨by omega, by omega, by rw [← m1, ← m2]; exact g2⟩
      omega
    · exact hz px py a b c d (by omega)
  · have g := t3.mp (by omega)
    rw [if_neg e2]
    exact Or.inr ⟨_, rfl, j, rfl, Or.inr ⟨j % 12, j / 12, by omega, ⟨by omega, g.1⟩, ⟨by omega, g.2.1⟩, g.2.2, fun qx qy a b c d g2 => hz qx qy a b c d (by omega)⟩⟩
/-- what was seen lets a carpet of that side lie there -/
def agS (V : dV) (si s x y : Int) : Prop := si = -1 ∨ ∀ i : Int, 0 ≤ i → i < V si 7 0 → (x ≤ V si 2 i ∧ V si 2 i < x + s) → (y ≤ V si 3 i ∧ V si 3 i < y + s) → V si 4 i = s
theorem dsub_w {v x : Int} (hx : 0 ≤ x ∧ x ≤ 11) (hv : -2147483648 ≤ v ∧ v ≤ 2147483647) : dv_sub v x = v - x ∨ (v < x ∧ 100 ≤ dv_sub v x) := by
  by_cases e : -2147483648 ≤ v - x
  · exact Or.inl (dv_sub_ok e (by omega) hv.1 hv.2 (by omega) (by omega))
  · right
    have h : dv_sub v x = (v - x).bmod (2 ^ 32) := by
      unfold dv_sub
      rw [Int32.toInt_sub, dv_ofInt hv.1 hv.2, dv_ofInt (by omega) (by omega)]
    have h3 : 100 ≤ (v - x).bmod (2 ^ 32) := by
      unfold Int.bmod
      dsimp only
      split <;> omega
    rw [h]
    exact ⟨by omega, h3⟩
theorem q_agrees {si : Int} (s12 : s ≤ 12) (hs : V sa 10 0 = si) (hx : 0 ≤ x ∧ x ≤ 11) (hy : 0 ≤ y ∧ y ≤ 11) (h7 : V si 7 0 ≤ 6) (hv : ∀ i, 0 ≤ i → i < V si 7 0 → (-2147483648 ≤ V si 2 i ∧ V si 2 i ≤ 2147483647) ∧ (-2147483648 ≤ V si 3 i ∧ V si 3 i ≤ 2147483647)) : ∃ t : Int, f_X7_agreesWithSeen V sa s x y = (t, ()) ∧ (t = 1 ∨ t = 0) ∧ (t = 1 ↔ agS V si s x y) := by
  unfold f_X7_agreesWithSeen
  refine dv_inv (b := f_X7_agreesWithSeen_3b) (P := fun q => ∃ j : Int, q = (V, sa, s, x, y, j) ∧ 0 ≤ j ∧ j ≤ 7 ∧ (si = -1 ∨ ∀ i : Int, 0 ≤ i → i < j → (x ≤ V si 2 i ∧ V si 2 i < x + s) → (y ≤ V si 3 i ∧ V si 3 i < y + s) → V si 4 i = s)) (Q := fun q => ∃ t : Int, q = (t, ()) ∧ (t = 1 ∨ t = 0) ∧ (t = 1 ↔ agS V si s x y)) (m := fun q => (7 - q.2.2.2.2.2).toNat) ?_ _ ⟨0, rfl, by decide, by decide, Or.inr (fun i i0 i1 => absurd i1 (by omega))⟩
  rintro q ⟨j, rfl, j0, j7, hj⟩
  rw [f_X7_agreesWithSeen_3e]
  unfold f_X7_agreesWithSeen_3c
  rw [bq, hs]
  by_cases e1 : si = -1
  · rw [if_pos e1]
    exact Or.inr ⟨_, rfl, 1, rfl, Or.inl rfl, fun _ => Or.inl e1, fun _ => rfl⟩
  have hj := hj.resolve_left e1
  rw [if_neg e1, bq, bq]
  by_cases e2 : V si 7 0 ≤ j
  · rw [if_pos e2]
    exact Or.inr ⟨_, rfl, 1, rfl, Or.inl rfl, fun _ => Or.inr (fun i i0 i1 => hj i i0 (by omega)), fun _ => rfl⟩
  obtain ⟨v0, v5⟩ := hv j j0 (by omega)
  have d1 := dsub_w hx v0
  have d2 := dsub_w hy v5
  rw [if_neg e2, bq, bq, bq, bq, bq, bq]
  have e88 : f_X7_agreesWithSeen_88 V sa s x y j = Sum.inl (V, sa, s, x, y, j + 1) := by
    unfold f_X7_agreesWithSeen_88
    rw [bq]
  have skip : ((x ≤ V si 2 j ∧ V si 2 j < x + s) → (y ≤ V si 3 j ∧ V si 3 j < y + s) → V si 4 j = s) → ∃ t, (Sum.inl (V, sa, s, x, y, j + 1) : Sum (dV × Int × Int × Int × Int × Int) dP) = Sum.inl t ∧ (∃ j : Int, t = (V, sa, s, x, y, j) ∧ 0 ≤ j ∧ j ≤ 7 ∧ (si = -1 ∨ ∀ i : Int, 0 ≤ i → i < j → (x ≤ V si 2 i ∧ V si 2 i < x + s) → (y ≤ V si 3 i ∧ V si 3 i < y + s) → V si 4 i = s)) ∧ (7 - t.2.2.2.2.2).toNat < (7 - j).toNat := fun g => ⟨_, rfl, ⟨j + 1, rfl, by omega, by omega, Or.inr (fun i i0 i1 => by
    by_cases ei : i = j
    · rw [ei]; exact g
    · exact hj i i0 (by omega))⟩, by dsimp only; omega⟩
  by_cases a1 : dv_sub (V si 2 j) x < 0
  · rw [if_pos a1, e88]; exact Or.inl (skip (fun g => absurd g (by omega)))
  rw [if_neg a1]
  by_cases a2 : s ≤ dv_sub (V si 2 j) x
  · rw [if_pos a2, e88]; exact Or.inl (skip (fun g => absurd g (by omega)))
  rw [if_neg a2]
  by_cases a3 : dv_sub (V si 3 j) y < 0
  · rw [if_pos a3, e88]; exact Or.inl (skip (fun _ g => absurd g (by omega)))
  rw [if_neg a3]
  by_cases a4 : s ≤ dv_sub (V si 3 j) y
  · rw [if_pos a4, e88]; exact Or.inl (skip (fun _ g => absurd g (by omega)))
  rw [if_neg a4, bq, bq]
  by_cases a5 : V si 4 j = s
  · rw [if_pos a5, e88]; exact Or.inl (skip (fun _ _ => a5))
  · rw [if_neg a5]
    clear skip
    exact Or.inr ⟨_, rfl, 0, rfl, Or.inr rfl, fun g => absurd g (by decide), fun g => absurd (g.resolve_left e1 j j0 (by omega) ⟨by omega, by omega⟩ ⟨by omega, by omega⟩) a5⟩
/-- the carpet fits at the cell -/
theorem q_fits {si : Int} (hf : V sa 8 0 = fl) (hs : V sa 10 0 = si) (hb : fb (V fl)) (hsd : ∀ c, 0 ≤ c → c < V fl 7 0 → 1 ≤ V fl 0 c) (h7 : V si 7 0 ≤ 6) (hv : ∀ i, 0 ≤ i → i < V si 7 0 → (-2147483648 ≤ V si 2 i ∧ V si 2 i ≤ 2147483647) ∧ (-2147483648 ≤ V si 3 i ∧ V si 3 i ≤ 2147483647)) (c0 : 0 ≤ c) (c8 : c ≤ 8) (l0 : 0 ≤ cell) (l1 : cell < 144) : ∃ t : Int, f_X7_fits V sa k c cell = (t, ()) ∧ (t = 1 ∨ t = 0) ∧ (t = 1 ↔ (c < V fl 7 0 ∧ V fl 3 c = -1 ∧ 0 < V fl 2 c) ∧ lbk k (48 + c.toNat) = false ∧ (cell % 12 + V fl 0 c ≤ V fl 8 0 ∧ cell / 12 + V fl 0 c ≤ V fl 9 0 ∧ fpl (cvk V fl k) (V fl 0 c) (cell % 12) (cell / 12)) ∧ agS V si (V fl 0 c) (cell % 12) (cell / 12)) := by
  unfold f_X7_fits
  rw [if_neg (show ¬ cell < 0 by omega), bq, hf, dv_bn2 q_isReady]
  have no : ∀ {Q : Prop}, ¬ Q → ∃ t : Int, ((0 : Int), ()) = (t, ()) ∧ (t = 1 ∨ t = 0) ∧ (t = 1 ↔ Q) := fun q => ⟨0, rfl, Or.inr rfl, fun g => absurd g (by decide), fun g => absurd g q⟩
  by_cases e1 : (0 ≤ c ∧ c < V fl 7 0) ∧ V fl 3 c = -1 ∧ 0 < V fl 2 c
  case neg =>
    rw [if_neg e1, if_pos rfl]
    exact no (fun g => e1 ⟨⟨c0, g.1.1⟩, g.1.2⟩)
  have hc := hb.2.2.2 c c0 e1.1.2
  have hs1 := hsd c c0 e1.1.2
  have w12 := hb.2.1
  have h12 := hb.2.2.1
  rw [if_pos e1, if_neg (by decide), bq, bq, bq, bq, q_us c0 c8]
  by_cases e2 : lbk k (48 + c.toNat) = true
  · rw [if_pos e2, if_neg (by decide)]
    exact no (fun g => by rw [e2] at g; exact absurd g.2.1 (by decide))
  have e2' : lbk k (48 + c.toNat) = false := by simpa using e2
  rw [if_neg e2, if_pos (by decide), bq, bq, bq, bq, bq, bq, bq]
  by_cases e3 : V fl 8 0 < cell % 12 + V fl 0 c
  · rw [if_pos e3]; exact no (fun g => by have := g.2.2.1.1; omega)
  rw [if_neg e3, bq, bq, bq]
  by_cases e4 : cell / 12 + V fl 0 c ≤ V fl 9 0
  case neg => rw [if_neg e4]; exact no (fun g => e4 g.2.2.1.2.1)
  rw [if_pos e4, bq, bq]
  refine dv_inv (b := f_X7_fits_99b) (P := fun q => ∃ j : Int, q = (V, dv_sub (dv_shl 1 (V fl 0 c)) 1, cell / 12, cell % 12, V fl 0 c, sa, k, j) ∧ 0 ≤ j ∧ j ≤ V fl 0 c ∧ (∀ i, 0 ≤ i → i < j → (ct k (cell % 12 + i) : Int) ≤ cell / 12) ∧ ∀ px i, cell % 12 ≤ px → px < cell % 12 + V fl 0 c → 0 ≤ i → i < j → ¬ qb (V fl 6 (cell / 12 + i)) px.toNat = true) (Q := fun q => ∃ t : Int, q = (t, ()) ∧ (t = 1 ∨ t = 0) ∧ (t = 1 ↔ (c < V fl 7 0 ∧ V fl 3 c = -1 ∧ 0 < V fl 2 c) ∧ lbk k (48 + c.toNat) = false ∧ (cell % 12 + V fl 0 c ≤ V fl 8 0 ∧ cell / 12 + V fl 0 c ≤ V fl 9 0 ∧ fpl (cvk V fl k) (V fl 0 c) (cell % 12) (cell / 12)) ∧ agS V si (V fl 0 c) (cell % 12) (cell / 12))) (m := fun q => (V fl 0 c - q.2.2.2.2.2.2.2).toNat) ?_ _ ⟨0, rfl, by decide, by omega, fun i i0 i1 => absurd i1 (by omega), fun px i _ _ i0 i1 => absurd i1 (by omega)⟩
  rintro q ⟨j, rfl, j0, j1, hz, hq⟩
  rw [f_X7_fits_99e]
  unfold f_X7_fits_99c
  by_cases e5 : V fl 0 c ≤ j
  · obtain ⟨t, t1, t2, t3⟩ := q_agrees (V := V) (sa := sa) (s := V fl 0 c) (x := cell % 12) (y := cell / 12) hc.1.2 hs (by omega) (by omega) h7 hv
    rw [if_pos e5, dv_bn2 t1]
    refine Or.inr ⟨_, rfl, t, rfl, t2, ?_⟩
    rw [t3]
    refine ⟨fun g => ⟨⟨e1.1.2, e1.2⟩, e2', ⟨by omega, e4, fun px py a0 a1 b0 b1 hcc => ?_⟩, g⟩, fun g => g.2.2.2⟩
    rcases hcc with hcc | hcc
    · have := hq px (py - cell / 12) a0 a1 (by omega) (by omega)
      rw [show cell / 12 + (py - cell / 12) = py by omega] at this
      exact this hcc
    · have := hz (px - cell % 12) (by omega) (by omega)
      rw [show cell % 12 + (px - cell % 12) = px by omega] at this
      omega
  rw [if_neg e5, bq, bq, bq, bq, bq, bq, q_ct (by omega) (by omega)]
  by_cases e6 : cell / 12 < (ct k (cell % 12 + j) : Int)
  · rw [if_pos (lc_p.mpr e6)]
    refine Or.inr ⟨_, rfl, no (fun g => ?_)⟩
    exact g.2.2.1.2.2 (cell % 12 + j) (cell / 12) (by omega) (by omega) (by omega) (by omega) (Or.inr e6)
  rw [if_neg (fun g => e6 (lc_p.mp g)), bq, hf, bq, bq, bq, bq]
  have key : dv_and (dv_shr (V fl 6 (cell / 12 + j)) (cell % 12)) (dv_sub (dv_shl 1 (V fl 0 c)) 1) = 0 ↔ ∀ px, cell % 12 ≤ px → px < cell % 12 + V fl 0 c → ¬ qb (V fl 6 (cell / 12 + j)) px.toNat = true := by
    rw [qb_and0]
    constructor
    · intro g px a0 a1 hcc
      have g1 := g (px - cell % 12).toNat (by omega)
      rw [qb_shi (by omega) (by omega), qb_sq (by omega) hc.1.2 (by omega)] at g1
      refine g1 ⟨?_, by simp; omega⟩
      rw [show (cell % 12).toNat + (px - cell % 12).toNat = px.toNat by omega]
      exact hcc
    · intro g i hi g1
      have g2 := g1.2
      rw [qb_sq (by omega) hc.1.2 hi] at g2
      have g3 : (i : Int) < V fl 0 c := by simpa using g2
      have g4 := g1.1
      rw [qb_shi (by omega) (by omega)] at g4
      refine g (cell % 12 + i) (by omega) (by omega) ?_
      rw [show (cell % 12 + (i : Int)).toNat = (cell % 12).toNat + i by omega]
      exact g4
  by_cases e7 : dv_and (dv_shr (V fl 6 (cell / 12 + j)) (cell % 12)) (dv_sub (dv_shl 1 (V fl 0 c)) 1) = 0
  · rw [if_pos e7, bq]
    refine Or.inl ⟨_, rfl, ⟨j + 1, rfl, by omega, by omega, fun i i0 i1 => ?_, fun px i a0 a1 i0 i1 => ?_⟩, by dsimp only; omega⟩
    · by_cases ei : i = j
      · rw [ei]; omega
      · exact hz i i0 (by omega)
    · by_cases ei : i = j
      · rw [ei]; exact key.mp e7 px a0 a1
      · exact hq px i a0 a1 i0 (by omega)
  · rw [if_neg e7]
    refine Or.inr ⟨_, rfl, no (fun g => e7 (key.mpr (fun px a0 a1 hcc => ?_)))⟩
    exact g.2.2.1.2.2 px (cell / 12 + j) a0 a1 (by omega) (by omega) (Or.inl hcc)
end QVF
section QVG
variable {V V' : dV} {sa fl k k' x y s w h z r f cell : Int} {n c d : Nat} {C C' : Int → Int → Prop} {S : Nat → Prop} {sd : Nat → Int} {pr : Nat → Int → Int} {ag : Nat → Int → Prop}
theorem q_keyWith (hf : V sa 8 0 = fl) (s1 : 1 ≤ V fl 0 (c : Int)) (c8 : c ≤ 8) (l0 : 0 ≤ cell) (l1 : cell < 144) (hx : cell % 12 + V fl 0 (c : Int) ≤ 12) (hy : cell / 12 + V fl 0 (c : Int) ≤ 12) : ∃ k' : Int, f_X7_keyWith V sa k (c : Int) cell = (k', ()) ∧ (∀ z : Int, 0 ≤ z → z < 12 → (ct k' z : Int) = if cell % 12 ≤ z ∧ z < cell % 12 + V fl 0 (c : Int) then cell / 12 + V fl 0 (c : Int) else (ct k z : Int)) ∧ (∀ i : Nat, i < 9 → lbk k' (48 + i) = (lbk k (48 + i) || decide (i = c))) ∧ ∀ i : Nat, 57 ≤ i → i < 64 → lbk k' i = lbk k i := by
  obtain ⟨k', e, e1, e2, e3⟩ := k_with (k := k) (s := V fl 0 (c : Int)) (x := cell % 12) (top := cell / 12 + V fl 0 (c : Int)) (c := (c : Int)) s1 (by omega) (by omega) (by omega) (by omega) (by omega) (by omega)
  refine ⟨k', ?_, e1, fun i hi => ?_, e3⟩
  · unfold f_X7_keyWith
    rw [bq, bq, bq, hf, bq, bq, bq, bq, bq, bq, bq, bq, bq, bq, bq, bq, bq, bq, bq, bq, bq, bq, bq, bq, e]
  · rw [e2 i hi]
    congr 1
    congr 1
    apply propext
    omega
/-- the key with a carpet more tells what is covered then -/
theorem cvk_nx (hb : fb1 (cvk V fl k) w h cell) (nf : cell ≠ -1) (s1 : 1 ≤ s) (hx : cell % 12 + s ≤ w) (hy : cell / 12 + s ≤ h) (w12 : w ≤ 12) (h12 : h ≤ 12) (hf : fpl (cvk V fl k) s (cell % 12) (cell / 12)) (hk : ∀ z : Int, 0 ≤ z → z < 12 → (ct k' z : Int) = if cell % 12 ≤ z ∧ z < cell % 12 + s then cell / 12 + s else (ct k z : Int)) (px py : Int) (a0 : 0 ≤ px) (a1 : px < w) (b0 : 0 ≤ py) (b1 : py < h) : cvk V fl k' px py ↔ cvs (cvk V fl k) s (cell % 12) (cell / 12) px py := by
  rcases hb with ⟨e, -⟩ | ⟨qx, qy, e, ⟨x0, x1⟩, ⟨y0, y1⟩, n1, h1⟩
  · exact absurd e nf
  have ex : cell % 12 = qx := by omega
  have ey : cell / 12 = qy := by omega
  rw [ex] at hx
  rw [ey] at hy
  rw [ex, ey] at hk hf ⊢
  unfold cvk cvs
  rw [hk px a0 (by omega)]
  by_cases g : qx ≤ px ∧ px < qx + s
  · rw [if_pos g]
    constructor
    · rintro (k1 | k1)
      · exact Or.inl (Or.inl k1)
      · by_cases g2 : qy ≤ py
        · exact Or.inr ⟨g, g2, k1⟩
        · exact Or.inl (h1 px py a0 a1 b0 b1 (Or.inl (by omega)))
    · rintro ((k1 | k1) | ⟨-, -, k1⟩)
      · exact Or.inl k1
      · refine Or.inr ?_
        have k2 : ¬ (qy < (ct k px : Int)) := fun k3 => hf px qy g.1 g.2 (Int.le_refl _) (by omega) (Or.inr k3)
        omega
      · exact Or.inr k1
  · rw [if_neg g]
    exact ⟨Or.inl, fun k1 => k1.resolve_right (fun k2 => g k2.1)⟩
/-- bare cells of a hall -/
noncomputable def blc (C : Int → Int → Prop) (w h : Int) : Int := qs (fun x => qs (fun y => ip (((x : Int) < w ∧ (y : Int) < h) ∧ ¬ C (x : Int) (y : Int))) 12) 12
theorem blc_c (e : ∀ px py, 0 ≤ px → px < w → 0 ≤ py → py < h → (C px py ↔ C' px py)) : blc C w h = blc C' w h := qs_c (fun x _ => qs_c (fun y _ => ip_c ⟨fun g => ⟨g.1, fun q => g.2 ((e x y (by omega) g.1.1 (by omega) g.1.2).mpr q)⟩, fun g => ⟨g.1, fun q => g.2 ((e x y (by omega) g.1.1 (by omega) g.1.2).mp q)⟩⟩))
theorem blc_0 (w12 : w ≤ 12) (h12 : h ≤ 12) : blc C w h = 0 ↔ ful C w h := by
  have nn : ∀ x : Nat, 0 ≤ qs (fun y : Nat => ip (((x : Int) < w ∧ (y : Int) < h) ∧ ¬ C (x : Int) (y : Int))) 12 := fun x => (qs_b (k := 1) (fun _ _ => ip_b)).1
  have p1 := qs_p (n := 12) (f := fun x : Nat => qs (fun y : Nat => ip (((x : Int) < w ∧ (y : Int) < h) ∧ ¬ C (x : Int) (y : Int))) 12) (fun x _ => nn x)
  have z1 : 0 ≤ blc C w h := (qs_b (f := fun x : Nat => qs (fun y : Nat => ip (((x : Int) < w ∧ (y : Int) < h) ∧ ¬ C (x : Int) (y : Int))) 12) (n := 12) (k := 12) (fun x _ => by
    have := qs_b (f := fun y : Nat => ip (((x : Int) < w ∧ (y : Int) < h) ∧ ¬ C (x : Int) (y : Int))) (n := 12) (k := 1) (fun _ _ => ip_b)
    omega)).1
  constructor
  · intro g px py a0 a1 b0 b1
    refine Classical.byContradiction (fun q => ?_)
    have p2 := qs_ge (f := fun y : Nat => ip (((px.toNat : Int) < w ∧ (y : Int) < h) ∧ ¬ C (px.toNat : Int) (y : Int))) (n := 12) (fun _ _ => ip_b.1) (i := py.toNat) (by omega)
    have p3 : ip (((px.toNat : Int) < w ∧ (py.toNat : Int) < h) ∧ ¬ C (px.toNat : Int) (py.toNat : Int)) = 1 := ip_1 ⟨⟨by omega, by omega⟩, by
      rw [show ((px.toNat : Nat) : Int) = px by omega, show ((py.toNat : Nat) : Int) = py by omega]; exact q⟩
    try simp only at p2
    rw [p3] at p2
    have := p1.mpr ⟨px.toNat, by omega, by omega⟩
    unfold blc at g
    omega
  · intro g
    unfold blc
    refine (qs_c (fun x _ => ?_)).trans qs_z0
    exact (qs_c (fun y _ => ip_0 (fun q => q.2 (g x y (by omega) q.1.1 (by omega) q.1.2)))).trans qs_z0
/-- a square laid where all is bare -/
theorem blc_s (x0 : 0 ≤ x) (y0 : 0 ≤ y) (s0 : 0 ≤ s) (xs : x + s ≤ w) (ys : y + s ≤ h) (w12 : w ≤ 12) (h12 : h ≤ 12) (hf : fpl C s x y) : blc (cvs C s x y) w h = blc C w h - s * s := by
  have e := boxA x0 (show x ≤ x + s by omega) (show x + s ≤ 12 by omega) y0 (show y ≤ y + s by omega) (show y + s ≤ 12 by omega)
  rw [show x + s - x = s by omega, show y + s - y = s by omega] at e
  have key : blc C w h = blc (cvs C s x y) w h + qs (fun px => qs (fun py => ip ((x ≤ (px : Int) ∧ (px : Int) < x + s) ∧ (y ≤ (py : Int) ∧ (py : Int) < y + s))) 12) 12 := by
    unfold blc
    rw [← qs_ad]
    refine qs_c (fun px _ => ?_)
    rw [← qs_ad]
    refine qs_c (fun py _ => ?_)
    by_cases g : (x ≤ (px : Int) ∧ (px : Int) < x + s) ∧ (y ≤ (py : Int) ∧ (py : Int) < y + s)
    · rw [ip_1 g, ip_1 (show ((px : Int) < w ∧ (py : Int) < h) ∧ ¬ C px py from ⟨⟨by omega, by omega⟩, hf px py g.1.1 g.1.2 g.2.1 g.2.2⟩), ip_0 (fun q => q.2 (Or.inr g))]
      rfl
    · rw [ip_0 g, Int.add_zero]
      refine ip_c ⟨fun q => ⟨q.1, fun q2 => q2.elim q.2 g⟩, fun q => ⟨q.1, fun q2 => q.2 (Or.inl q2)⟩⟩
  omega
/-- of the carpets that could come: those that the key doesn't tell -/
def rdk (V : dV) (fl k : Int) : Nat → Prop := fun c => ((c : Int) < V fl 7 0 ∧ V fl 3 (c : Int) = -1 ∧ 0 < V fl 2 (c : Int)) ∧ lbk k (48 + c) = false
theorem rdk_w {i : Nat} (hi : i < 9) (h2 : ∀ i : Nat, i < 9 → lbk k' (48 + i) = (lbk k (48 + i) || decide (i = c))) : rdk V fl k' i ↔ wo1 (rdk V fl k) c i := by
  unfold rdk wo1
  rw [h2 i hi, Bool.or_eq_false_iff]
  simp only [decide_eq_false_iff_not]
  exact ⟨fun g => ⟨⟨g.1, g.2.1⟩, g.2.2⟩, fun g => ⟨g.1.1, g.1.2, g.2⟩⟩
end QVG
section QVH
variable {V V0 V1 V2 V3 V4 : dV} {X : Int → Nat → Int → Prop} {sa fl si k k' x y s c0 w h z r f cell left en total t p : Int} {n c d depth : Nat} {pr pc : Nat → Int → Int}
theorem sL_ub {sd : Nat → Int} {ag : Nat → Int → Prop} {C : Int → Int → Prop} {S : Nat → Prop} (hs : rs n sd pr w h) : sL sd pr ag w h n d C S ≤ 99 * (d : Int) := by
  obtain ⟨n9, ⟨w0, w12⟩, ⟨h0, h12⟩, -, hp⟩ := hs
  induction d generalizing C S with
  | zero =>
    by_cases f : ful C w h
    · rw [sL_f f]; decide
    · rw [sL_0 f]; decide
  | succ d ih =>
    by_cases f : ful C w h
    · rw [sL_f f]; omega
    · rw [sL_s f]
      obtain ⟨r, k⟩ := fb1_ex (C := C) (w := w) (h := h) w12
      have hr : 0 ≤ fbC C w h ∧ fbC C w h < 144 := by
        rw [fbC_is w12 k]
        rcases k with ⟨rfl, k1⟩ | ⟨px, py, rfl, ⟨x0, x1⟩, ⟨y0, y1⟩, -⟩
        · exact absurd k1 f
        · omega
      have key : ∀ m : Nat, m ≤ n → foC (fun c t => @ite Int (okc sd pr ag w h C S c) (Classical.propDecidable _) (mCh t (sL sd pr ag w h n d (nxC sd w h C c) (wo1 S c)) (pr c (fbC C w h))) t) m (-1) ≤ 99 * ((d + 1 : Nat) : Int) := by
        intro m
        induction m with
        | zero => exact fun _ => by show (-1 : Int) ≤ _; omega
        | succ m ihm =>
          intro hm
          have i1 := ihm (by omega)
          unfold foC
          generalize foC (fun c t => @ite Int (okc sd pr ag w h C S c) (Classical.propDecidable _) (mCh t (sL sd pr ag w h n d (nxC sd w h C c) (wo1 S c)) (pr c (fbC C w h))) t) m (-1) = t at i1
          by_cases g : okc sd pr ag w h C S m
          · rw [if_pos g]
            have i2 := ih (C := nxC sd w h C m) (S := wo1 S m)
            have i3 := hp m _ (by omega) hr.1 hr.2
            unfold mCh
            split
            · exact i1
            · split <;> omega
          · rw [if_neg g]; exact i1
      exact key n (Nat.le_refl _)
/-- used carpets, as the key tells them -/
noncomputable def uck (k : Int) : Nat := (qs (fun i => if lbk k (48 + i) = true then 1 else 0) 9).toNat
/-- what a search leaves as it was -/
def sV (sa : Int) (X : Int → Nat → Int → Prop) (V0 V : dV) : Prop := ∀ b m z, ¬ ((b = sa ∧ (m = 1 ∨ m = 2 ∨ m = 4 ∨ m = 5 ∨ m = 3)) ∨ X b m z) → V b m z = V0 b m z
theorem sV_r : sV sa X V V := fun _ _ _ _ => rfl
theorem sV_t (h : sV sa X V0 V) (g : sV sa X V V1) : sV sa X V0 V1 := fun b m z q => (g b m z q).trans (h b m z q)
/-- prices that were asked in this round -/
def pC (sa : Int) (pc : Nat → Int → Int) (V0 V : dV) : Prop := (∀ (c : Nat) (z : Int), c < 9 → 0 ≤ z → z < 144 → V sa 2 (144 * (c : Int) + z) = V0 sa 6 0 → V sa 1 (144 * (c : Int) + z) = pc c z) ∧ ∀ z : Int, V sa 2 z ≤ V0 sa 6 0
/-- what a search stands on: its floor, its prices, what was seen -/
def sS (V0 : dV) (sa fl : Int) (X : Int → Nat → Int → Prop) (si : Int) (n : Nat) (pr pc : Nat → Int → Int) : Prop := (V0 sa 8 0 = fl ∧ V0 sa 10 0 = si ∧ V0 fl 7 0 = (n : Int)) ∧ fb (V0 fl) ∧ (∀ c, 0 ≤ c → c < (n : Int) → 1 ≤ V0 fl 0 c) ∧ (V0 si 7 0 ≤ 6 ∧ ∀ i, 0 ≤ i → i < V0 si 7 0 → (-2147483648 ≤ V0 si 2 i ∧ V0 si 2 i ≤ 2147483647) ∧ (-2147483648 ≤ V0 si 3 i ∧ V0 si 3 i ≤ 2147483647)) ∧ ((∀ m z, ¬ X sa m z) ∧ (fl ≠ sa ∧ ∀ m z, ¬ X fl m z) ∧ si ≠ sa ∧ ∀ m z, ¬ X si m z) ∧ rs n (fun c => V0 fl 0 (c : Int)) pr (V0 fl 8 0) (V0 fl 9 0) ∧ ∀ V : dV, sV sa X V0 V → pC sa pc V0 V → ∀ (c : Nat) (z : Int), c < n → 0 ≤ z → z < 144 → ∃ (V' : dV) (p : Int), f_X7_priceAt V sa (c : Int) z = (V', p) ∧ sV sa X V0 V' ∧ pC sa pc V0 V' ∧ (p = -1 ↔ pr c z = -1) ∧ (V0 sa 12 0 ≠ 0 → p = pr c z)
noncomputable def sNk (V0 : dV) (fl si : Int) (n : Nat) (pr : Nat → Int → Int) (d : Nat) (k : Int) : Int := sN (fun c => V0 fl 0 (c : Int)) pr (fun c z => agS V0 si (V0 fl 0 (c : Int)) (z % 12) (z / 12)) (V0 fl 8 0) (V0 fl 9 0) n d (cvk V0 fl k) (rdk V0 fl k)
noncomputable def sLk (V0 : dV) (fl si : Int) (n : Nat) (pr : Nat → Int → Int) (d : Nat) (k : Int) : Int := sL (fun c => V0 fl 0 (c : Int)) pr (fun c z => agS V0 si (V0 fl 0 (c : Int)) (z % 12) (z / 12)) (V0 fl 8 0) (V0 fl 9 0) n d (cvk V0 fl k) (rdk V0 fl k)
/-- v is what may be said of N ways, of the least cost L -/
def sNd (ch en N L v : Int) : Prop := (ch = 0 → (N < en → v = N) ∧ (en ≤ N → en ≤ v ∧ v ≤ N)) ∧ (ch ≠ 0 → v = L)
/-- what the memo may say of a key -/
def sP (V0 : dV) (sa fl si : Int) (n : Nat) (pr : Nat → Int → Int) (k v : Int) : Prop := sNd (V0 sa 12 0) (V0 sa 13 0) (sNk V0 fl si n pr (9 - uck k) k) (sLk V0 fl si n pr (9 - uck k) k) v
/-- a key with what is left to fill behind it -/
def sK (V0 : dV) (fl : Int) (k left from_ : Int) (depth : Nat) : Prop := lbk k 63 = false ∧ left = blc (cvk V0 fl k) (V0 fl 8 0) (V0 fl 9 0) ∧ (0 ≤ from_ ∧ from_ ≤ 144) ∧ (∀ px py, 0 ≤ px → px < V0 fl 8 0 → 0 ≤ py → py < V0 fl 9 0 → 12 * py + px < from_ → cvk V0 fl k px py) ∧ depth = uck k ∧ depth ≤ 9
abbrev sSD (V0 : dV) (fl : Int) : Nat → Int := fun c => V0 fl 0 (c : Int)
abbrev sAG (V0 : dV) (fl si : Int) : Nat → Int → Prop := fun c z => agS V0 si (V0 fl 0 (c : Int)) (z % 12) (z / 12)
/-- the ways of the first c carpets -/
noncomputable def sM (V0 : dV) (fl si : Int) (n : Nat) (pr : Nat → Int → Int) (k : Int) (d c : Nat) : Int := qs (fun c => ip (okc (sSD V0 fl) pr (sAG V0 fl si) (V0 fl 8 0) (V0 fl 9 0) (cvk V0 fl k) (rdk V0 fl k) c) * sN (sSD V0 fl) pr (sAG V0 fl si) (V0 fl 8 0) (V0 fl 9 0) n d (nxC (sSD V0 fl) (V0 fl 8 0) (V0 fl 9 0) (cvk V0 fl k) c) (wo1 (rdk V0 fl k) c)) c
noncomputable def sT (V0 : dV) (fl si : Int) (n : Nat) (pr : Nat → Int → Int) (k : Int) (d c : Nat) : Int := foC (fun c t => @ite Int (okc (sSD V0 fl) pr (sAG V0 fl si) (V0 fl 8 0) (V0 fl 9 0) (cvk V0 fl k) (rdk V0 fl k) c) (Classical.propDecidable _) (mCh t (sL (sSD V0 fl) pr (sAG V0 fl si) (V0 fl 8 0) (V0 fl 9 0) n d (nxC (sSD V0 fl) (V0 fl 8 0) (V0 fl 9 0) (cvk V0 fl k) c) (wo1 (rdk V0 fl k) c)) (pr c (fbC (cvk V0 fl k) (V0 fl 8 0) (V0 fl 9 0)))) t) c (-1)
/-- the loop over the carpets, up to c -/
def sLp (V0 V : dV) (sa fl : Int) (X : Int → Nat → Int → Prop) (si : Int) (n : Nat) (pr pc : Nat → Int → Int) (k cell : Int) (depth c : Nat) (total : Int) : Prop := (sV sa X V0 V ∧ pC sa pc V0 V) ∧ fb1 (cvk V0 fl k) (V0 fl 8 0) (V0 fl 9 0) cell ∧ cell ≠ -1 ∧ c ≤ n ∧ (9 ≤ depth → c = 0) ∧ sNd (V0 sa 12 0) (V0 sa 13 0) (sM V0 fl si n pr k (8 - depth) c) (sT V0 fl si n pr k (8 - depth) c) total
theorem sS_fl (hS : sS V0 sa fl X si n pr pc) (h : sV sa X V0 V) (m : Nat) (z : Int) : V fl m z = V0 fl m z := by
  obtain ⟨-, -, -, -, ⟨-, ⟨a3, a4⟩, a6, a7⟩, -⟩ := hS
  exact h fl m z (fun g => g.elim (fun q => a3 q.1) (a4 m z))
theorem sS_si (hS : sS V0 sa fl X si n pr pc) (h : sV sa X V0 V) (m : Nat) (z : Int) : V si m z = V0 si m z := by
  obtain ⟨-, -, -, -, ⟨-, ⟨a3, a4⟩, a6, a7⟩, -⟩ := hS
  exact h si m z (fun g => g.elim (fun q => a6 q.1) (a7 m z))
theorem sS_sa (hS : sS V0 sa fl X si n pr pc) (h : sV sa X V0 V) {m : Nat} (hm : ¬ (m = 1 ∨ m = 2 ∨ m = 4 ∨ m = 5 ∨ m = 3)) (z : Int) : V sa m z = V0 sa m z := by
  obtain ⟨-, -, -, -, ⟨a1, -⟩, -⟩ := hS
  exact h sa m z (fun g => g.elim (fun q => hm q.2) (a1 m z))
theorem sS_cvk (hS : sS V0 sa fl X si n pr pc) (h : sV sa X V0 V) : cvk V fl k = cvk V0 fl k := by
  unfold cvk
  funext px py
  rw [sS_fl hS h]
/-- the first bare cell behind a key -/
theorem s_first (hS : sS V0 sa fl X si n pr pc) (h : sV sa X V0 V) (hK : sK V0 fl k left f depth) (hl : left ≠ 0) (e : f_X7_firstBare V sa k f = (cell, ())) : fb1 (cvk V0 fl k) (V0 fl 8 0) (V0 fl 9 0) cell ∧ cell ≠ -1 := by
  obtain ⟨k1, k2, ⟨k3, k4⟩, k5, -⟩ := hK
  obtain ⟨⟨s1, s2, s3⟩, hb, -⟩ := id hS
  have e8 := sS_fl hS h 8 0
  have e9 := sS_fl hS h 9 0
  obtain ⟨r, r1, r2⟩ := q_first (V := V) (sa := sa) (k := k) (fl := fl) ((sS_sa hS h (by decide) 0).trans s1) (by rw [e8]; exact hb.2.1.2) (by rw [e9]; exact hb.2.2.1.2) k3 k4 (fun px py a0 a1 b0 b1 g => by
    rw [sS_cvk hS h]
    exact k5 px py a0 (by rw [← e8]; exact a1) b0 (by rw [← e9]; exact b1) g)
  rw [sS_cvk hS h, e8, e9] at r2
  have er : r = cell := by rw [e] at r1; exact (congrArg Prod.fst r1).symm
  subst er
  refine ⟨r2, fun g => hl ?_⟩
  rw [k2]
  exact (blc_0 hb.2.1.2 hb.2.2.1.2).mpr ((fb1_ful r2).mpr g)
/-- the loop begins -/
theorem s_begin (hb : fb1 (cvk V0 fl k) (V0 fl 8 0) (V0 fl 9 0) cell) (hc : cell ≠ -1) (h : sV sa X V0 V) (hp : pC sa pc V0 V) (he : 1 ≤ V0 sa 13 0) (ht : (V0 sa 12 0 = 0 → total = 0) ∧ (V0 sa 12 0 ≠ 0 → total = -1)) : sLp V0 V sa fl X si n pr pc k cell depth 0 total := ⟨⟨h, hp⟩, hb, hc, Nat.zero_le _, fun _ => rfl, fun g => ⟨fun _ => ht.1 g, fun q => absurd q (by show ¬ V0 sa 13 0 ≤ 0; omega)⟩, fun g => ht.2 g⟩
/-- a carpet that can't come changes nothing -/
theorem s_skip (h : sLp V0 V sa fl X si n pr pc k cell depth c total) (hc : c < n) (hd : depth < 9) (h1 : sV sa X V0 V1) (p1 : pC sa pc V0 V1) (no : ¬ okc (sSD V0 fl) pr (sAG V0 fl si) (V0 fl 8 0) (V0 fl 9 0) (cvk V0 fl k) (rdk V0 fl k) c) : sLp V0 V1 sa fl X si n pr pc k cell depth (c + 1) total := by
  obtain ⟨-, h2, h3, h4, h5, h6⟩ := h
  have eM : sM V0 fl si n pr k (8 - depth) (c + 1) = sM V0 fl si n pr k (8 - depth) c := by
    show sM V0 fl si n pr k (8 - depth) c + ip _ * _ = _
    rw [ip_0 no, Int.zero_mul, Int.add_zero]
  have eT : sT V0 fl si n pr k (8 - depth) (c + 1) = sT V0 fl si n pr k (8 - depth) c := by
    show @ite Int _ (Classical.propDecidable _) _ (sT V0 fl si n pr k (8 - depth) c) = _
    rw [if_neg no]
  refine ⟨⟨h1, p1⟩, h2, h3, by omega, fun g => by omega, ?_⟩
  rw [eM, eT]
  exact h6
theorem s_fits0 (hS : sS V0 sa fl X si n pr pc) (h : sLp V0 V sa fl X si n pr pc k cell depth c total) (hc : c < n) (e : f_X7_fits V sa k (c : Int) cell = (t, ())) : (0 ≤ cell ∧ cell < 144) ∧ (t = 1 ∨ t = 0) ∧ (t = 1 ↔ rdk V0 fl k c ∧ (cell % 12 + V0 fl 0 (c : Int) ≤ V0 fl 8 0 ∧ cell / 12 + V0 fl 0 (c : Int) ≤ V0 fl 9 0 ∧ fpl (cvk V0 fl k) (V0 fl 0 (c : Int)) (cell % 12) (cell / 12)) ∧ sAG V0 fl si c cell) := by
  obtain ⟨⟨s1, s2, s3⟩, hb, hsd, ⟨h7, hv⟩, -, ⟨n9, -⟩, -⟩ := id hS
  obtain ⟨⟨v1, v2⟩, f1, f2, -⟩ := h
  have hr : 0 ≤ cell ∧ cell < 144 := by
    have w8 := hb.2.1
    have w9 := hb.2.2.1
    rcases f1 with ⟨q, -⟩ | ⟨px, py, rfl, ⟨x0, x1⟩, ⟨y0, y1⟩, -⟩
    · exact absurd q f2
    · omega
  have efl : V fl = V0 fl := by funext m z; exact sS_fl hS v1 m z
  have esi : V si = V0 si := by funext m z; exact sS_si hS v1 m z
  obtain ⟨t', t1, t2, t3⟩ := q_fits (V := V) (sa := sa) (k := k) (fl := fl) (si := si) (c := (c : Int)) (cell := cell) ((sS_sa hS v1 (by decide) 0).trans s1) ((sS_sa hS v1 (by decide) 0).trans s2) (by rw [efl]; exact hb) (fun c c0 c1 => by rw [efl] at c1 ⊢; rw [s3] at c1; exact hsd c c0 c1) (by rw [esi]; exact h7) (fun i i0 i1 => by rw [esi] at i1 ⊢; exact hv i i0 i1) (by omega) (by omega) hr.1 hr.2
  have et : t' = t := by rw [e] at t1; exact (congrArg Prod.fst t1).symm
  subst et
  refine ⟨hr, t2, ?_⟩
  rw [t3, sS_cvk hS v1, Int.toNat_natCast]
  unfold rdk agS
  rw [efl, esi]
  constructor
  · rintro ⟨a1, a2, a3, a4⟩; exact ⟨⟨a1, a2⟩, a3, a4⟩
  · rintro ⟨⟨a1, a2⟩, a3, a4⟩; exact ⟨a1, a2, a3, a4⟩
end QVH
section QVI
variable {V V0 V1 : dV} {sa fl si k k' x y s w h z r f cell left en total t p v : Int} {X : Int → Nat → Int → Prop} {n c d m depth : Nat} {sd : Nat → Int} {pr pc : Nat → Int → Int} {ag : Nat → Int → Prop} {C : Int → Int → Prop} {S : Nat → Prop}
theorem qs_at (hc : c < n) : qs (fun i => ip (i = c)) n = 1 := by
  rw [qs_one (P := fun i => i = c) (fun i j _ _ a b => a.trans b.symm)]
  exact ip_1 ⟨c, hc, rfl⟩
theorem qs_mo {g : Nat → Int} (hg : ∀ i, i < n → 0 ≤ g i) (hc : c ≤ n) : qs g c ≤ qs g n := by
  induction n with
  | zero =>
    have e : c = 0 := by omega
    rw [e]
    exact Int.le_refl _
  | succ n ih =>
    by_cases e : c = n + 1
    · rw [e]; exact Int.le_refl _
    · have h1 := ih (fun i hi => hg i (by omega)) (by omega)
      have h2 := hg n (by omega)
      show qs g c ≤ qs g n + g n
      omega
theorem uck_w (hc : c < 9) (h0 : lbk k (48 + c) = false) (h2 : ∀ i : Nat, i < 9 → lbk k' (48 + i) = (lbk k (48 + i) || decide (i = c))) : uck k' = uck k + 1 := by
  have e : qs (fun i => if lbk k' (48 + i) = true then 1 else 0) 9 = qs (fun i => if lbk k (48 + i) = true then 1 else 0) 9 + qs (fun i => ip (i = c)) 9 := by
    rw [← qs_ad]
    refine qs_c (fun i hi => ?_)
    rw [h2 i hi]
    by_cases g : i = c
    · subst g
      rw [ip_1 rfl, h0]
      simp
    · rw [ip_0 g]
      simp [g]
  rw [qs_at hc] at e
  have b := (qs_b (f := fun i => if lbk k (48 + i) = true then 1 else 0) (n := 9) (k := 1) (fun i _ => by split <;> decide)).1
  unfold uck
  omega
theorem sL_lb (hs : rs n sd pr w h) : -1 ≤ sL sd pr ag w h n d C S := by
  obtain ⟨n9, ⟨w0, w12⟩, ⟨h0, h12⟩, -, hp⟩ := hs
  induction d generalizing C S with
  | zero =>
    by_cases f : ful C w h
    · rw [sL_f f]; decide
    · rw [sL_0 f]; decide
  | succ d ih =>
    by_cases f : ful C w h
    · rw [sL_f f]; decide
    · rw [sL_s f]
      have key : ∀ m : Nat, m ≤ n → -1 ≤ foC (fun c t => @ite Int (okc sd pr ag w h C S c) (Classical.propDecidable _) (mCh t (sL sd pr ag w h n d (nxC sd w h C c) (wo1 S c)) (pr c (fbC C w h))) t) m (-1) := by
        obtain ⟨r, k⟩ := fb1_ex (C := C) (w := w) (h := h) w12
        have hr : 0 ≤ fbC C w h ∧ fbC C w h < 144 := by
          rw [fbC_is w12 k]
          rcases k with ⟨rfl, k1⟩ | ⟨px, py, rfl, ⟨x0, x1⟩, ⟨y0, y1⟩, -⟩
          · exact absurd k1 f
          · omega
        intro m
        induction m with
        | zero => exact fun _ => Int.le_refl _
        | succ m ihm =>
          intro hm
          have i1 := ihm (by omega)
          unfold foC
          generalize foC (fun c t => @ite Int (okc sd pr ag w h C S c) (Classical.propDecidable _) (mCh t (sL sd pr ag w h n d (nxC sd w h C c) (wo1 S c)) (pr c (fbC C w h))) t) m (-1) = t at i1
          by_cases g : okc sd pr ag w h C S m
          · rw [if_pos g]
            have i2 := ih (C := nxC sd w h C m) (S := wo1 S m)
            have i3 := hp m _ (by omega) hr.1 hr.2
            unfold mCh
            split
            · exact i1
            · split <;> omega
          · rw [if_neg g]; exact i1
      exact key n (Nat.le_refl _)
noncomputable def sNx (V0 : dV) (fl si : Int) (n : Nat) (pr : Nat → Int → Int) (k : Int) (d c : Nat) : Int := sN (sSD V0 fl) pr (sAG V0 fl si) (V0 fl 8 0) (V0 fl 9 0) n d (nxC (sSD V0 fl) (V0 fl 8 0) (V0 fl 9 0) (cvk V0 fl k) c) (wo1 (rdk V0 fl k) c)
noncomputable def sLx (V0 : dV) (fl si : Int) (n : Nat) (pr : Nat → Int → Int) (k : Int) (d c : Nat) : Int := sL (sSD V0 fl) pr (sAG V0 fl si) (V0 fl 8 0) (V0 fl 9 0) n d (nxC (sSD V0 fl) (V0 fl 8 0) (V0 fl 9 0) (cvk V0 fl k) c) (wo1 (rdk V0 fl k) c)
theorem sM_b (n9 : n ≤ 9) (hc : c ≤ n) (d8 : d ≤ 8) : 0 ≤ sM V0 fl si n pr k d c ∧ sM V0 fl si n pr k d c ≤ 387420489 := by
  have h1 : 0 ≤ sM V0 fl si n pr k d c ∧ sM V0 fl si n pr k d c ≤ ((9 ^ d : Nat) : Int) * (c : Int) := qs_b (fun j _ => by
    have k1 := sN_b (sd := sSD V0 fl) (pr := pr) (ag := sAG V0 fl si) (w := V0 fl 8 0) (h := V0 fl 9 0) (d := d) (C := nxC (sSD V0 fl) (V0 fl 8 0) (V0 fl 9 0) (cvk V0 fl k) j) (S := wo1 (rdk V0 fl k) j) n9
    try dsimp only
    by_cases g : okc (sSD V0 fl) pr (sAG V0 fl si) (V0 fl 8 0) (V0 fl 9 0) (cvk V0 fl k) (rdk V0 fl k) j
    · rw [ip_1 g, Int.one_mul]; exact k1
    · rw [ip_0 g, Int.zero_mul]; omega)
  have h2 : 9 ^ d ≤ 9 ^ 8 := Nat.pow_le_pow_right (by decide) d8
  have h3 : 9 ^ d * c ≤ 9 ^ 8 * 9 := Nat.mul_le_mul h2 (by omega)
  have h4 : ((9 ^ d : Nat) : Int) * (c : Int) = ((9 ^ d * c : Nat) : Int) := (Int.natCast_mul _ _).symm
  rw [h4] at h1
  generalize 9 ^ d * c = M at h1 h3
  have h5 : (9 : Nat) ^ 8 * 9 = 387420489 := by decide
  rw [h5] at h3
  omega
/-- the search goes on behind a carpet -/
theorem s_call (hS : sS V0 sa fl X si n pr pc) (h : sLp V0 V sa fl X si n pr pc k cell depth c total) (hK : sK V0 fl k left f depth) (hc : c < n) (hd : depth < 9) (hr : rdk V0 fl k c) (hg : cell % 12 + V0 fl 0 (c : Int) ≤ V0 fl 8 0 ∧ cell / 12 + V0 fl 0 (c : Int) ≤ V0 fl 9 0 ∧ fpl (cvk V0 fl k) (V0 fl 0 (c : Int)) (cell % 12) (cell / 12)) (h1 : sV sa X V0 V1) (e : f_X7_keyWith V1 sa k (c : Int) cell = (k', ())) : sK V0 fl k' (left - V0 fl 0 (c : Int) * V0 fl 0 (c : Int)) cell (depth + 1) ∧ sNk V0 fl si n pr (9 - uck k') k' = sNx V0 fl si n pr k (8 - depth) c ∧ sLk V0 fl si n pr (9 - uck k') k' = sLx V0 fl si n pr k (8 - depth) c := by
  obtain ⟨⟨s1, s2, s3⟩, hb, hsd, -, -, ⟨n9, -⟩, -⟩ := id hS
  obtain ⟨-, f1, f2, -⟩ := h
  obtain ⟨k1, k2, -, k4, k5, k6⟩ := hK
  have w8 := hb.2.1
  have w9 := hb.2.2.1
  have hsc := hsd c (by omega) (by omega)
  have hcl : 0 ≤ cell ∧ cell < 144 := by
    rcases id f1 with ⟨q, -⟩ | ⟨px, py, q, ⟨x0, x1⟩, ⟨y0, y1⟩, -⟩
    · exact absurd q f2
    · omega
  have efl : V1 fl = V0 fl := by funext m z; exact sS_fl hS h1 m z
  obtain ⟨k'', e1, e2, e3, e4⟩ := q_keyWith (V := V1) (sa := sa) (fl := fl) (k := k) (c := c) (cell := cell) ((sS_sa hS h1 (by decide) 0).trans s1) (by rw [efl]; exact hsc) (by omega) hcl.1 hcl.2 (by rw [efl]; have := hg.1; omega) (by rw [efl]; have := hg.2.1; omega)
  have ek : k'' = k' := by rw [e] at e1; exact (congrArg Prod.fst e1).symm
  subst ek
  rw [efl] at e2
  have cvx : ∀ px py, 0 ≤ px → px < V0 fl 8 0 → 0 ≤ py → py < V0 fl 9 0 → (cvk V0 fl k'' px py ↔ cvs (cvk V0 fl k) (V0 fl 0 (c : Int)) (cell % 12) (cell / 12) px py) := fun px py a0 a1 b0 b1 => cvk_nx f1 f2 hsc hg.1 hg.2.1 w8.2 w9.2 hg.2.2 e2 px py a0 a1 b0 b1
  have eF : fbC (cvk V0 fl k) (V0 fl 8 0) (V0 fl 9 0) = cell := fbC_is w8.2 f1
  have eu : uck k'' = uck k + 1 := uck_w (by omega) hr.2 e3
  have eC : ∀ px py, 0 ≤ px → px < V0 fl 8 0 → 0 ≤ py → py < V0 fl 9 0 → (cvk V0 fl k'' px py ↔ nxC (sSD V0 fl) (V0 fl 8 0) (V0 fl 9 0) (cvk V0 fl k) c px py) := by
    intro px py a0 a1 b0 b1
    unfold nxC
    rw [eF]
    exact cvx px py a0 a1 b0 b1
  have eD : 9 - uck k'' = 8 - depth := by omega
  refine ⟨⟨?_, ?_, ⟨by omega, by omega⟩, ?_, by omega, by omega⟩, ?_, ?_⟩
  · rw [e4 63 (by decide) (by decide)]; exact k1
  · rw [blc_c cvx, blc_s (by omega) (by omega) (by omega) hg.1 hg.2.1 w8.2 w9.2 hg.2.2, k2]
  · intro px py a0 a1 b0 b1 g
    refine (cvx px py a0 a1 b0 b1).mpr (Or.inl ?_)
    rcases f1 with ⟨q, -⟩ | ⟨qx, qy, q, ⟨x0, x1⟩, ⟨y0, y1⟩, -, q1⟩
    · exact absurd q f2
    · exact q1 px py a0 a1 b0 b1 (by omega)
  · unfold sNk sNx
    rw [eD]
    exact sN_c w8.2 eC (fun i hi => rdk_w (by omega) e3)
  · unfold sLk sLx
    rw [eD]
    exact sL_c w8.2 eC (fun i hi => rdk_w (by omega) e3)
/-- a carpet that comes -/
theorem s_step (hS : sS V0 sa fl X si n pr pc) (h : sLp V0 V sa fl X si n pr pc k cell depth c total) (hc : c < n) (hd : depth < 9) (ok : okc (sSD V0 fl) pr (sAG V0 fl si) (V0 fl 8 0) (V0 fl 9 0) (cvk V0 fl k) (rdk V0 fl k) c) (h1 : sV sa X V0 V1) (p1 : pC sa pc V0 V1) (hr : sNd (V0 sa 12 0) (V0 sa 13 0) (sNx V0 fl si n pr k (8 - depth) c) (sLx V0 fl si n pr k (8 - depth) c) t) (g : V0 sa 12 0 = 0 → total < V0 sa 13 0) (hx : V0 sa 12 0 = 0 → x = dv_add total t) (hy : V0 sa 12 0 ≠ 0 → f_X7_cheaper V1 total t (pr c cell) = (x, ())) : sLp V0 V1 sa fl X si n pr pc k cell depth (c + 1) x := by
  obtain ⟨-, f1, f2, f3, f4, f5, f6⟩ := h
  obtain ⟨-, hb, -, -, -, hrs, -⟩ := id hS
  have n9 := hrs.1
  have eF : fbC (cvk V0 fl k) (V0 fl 8 0) (V0 fl 9 0) = cell := fbC_is hb.2.1.2 f1
  have b1 := sM_b (V0 := V0) (fl := fl) (si := si) (pr := pr) (k := k) (d := 8 - depth) n9 (show c ≤ n by omega) (by omega)
  have b2 := sM_b (V0 := V0) (fl := fl) (si := si) (pr := pr) (k := k) (d := 8 - depth) n9 (show c + 1 ≤ n by omega) (by omega)
  have eM : sM V0 fl si n pr k (8 - depth) (c + 1) = sM V0 fl si n pr k (8 - depth) c + sNx V0 fl si n pr k (8 - depth) c := by
    show sM V0 fl si n pr k (8 - depth) c + ip _ * sNx V0 fl si n pr k (8 - depth) c = _
    rw [ip_1 ok, Int.one_mul]
  have eT : sT V0 fl si n pr k (8 - depth) (c + 1) = mCh (sT V0 fl si n pr k (8 - depth) c) (sLx V0 fl si n pr k (8 - depth) c) (pr c cell) := by
    show @ite Int _ (Classical.propDecidable _) (mCh (sT V0 fl si n pr k (8 - depth) c) (sLx V0 fl si n pr k (8 - depth) c) (pr c (fbC (cvk V0 fl k) (V0 fl 8 0) (V0 fl 9 0)))) _ = _
    rw [if_pos ok, eF]
  have nb : 0 ≤ sNx V0 fl si n pr k (8 - depth) c := (sN_b n9).1
  refine ⟨⟨h1, p1⟩, f1, f2, by omega, fun g => by omega, fun q => ?_, fun q => ?_⟩
  · have g0 := g q
    have r1 := hr.1 q
    have q1 := f5 q
    rw [eM] at b2 ⊢
    generalize sNx V0 fl si n pr k (8 - depth) c = N at *
    generalize sM V0 fl si n pr k (8 - depth) c = M at *
    generalize V0 sa 13 0 = E at *
    have e1 : total = M := by
      by_cases g1 : M < E
      · exact q1.1 g1
      · have := (q1.2 (by omega)).1; omega
    have tb : 0 ≤ t ∧ t ≤ N := by
      by_cases g1 : N < E
      · have := r1.1 g1; omega
      · have := r1.2 (by omega); omega
    have xe : x = total + t := by rw [hx q]; exact dv_add_ok (by omega) (by omega) (by omega) (by omega) (by omega) (by omega)
    refine ⟨fun g2 => ?_, fun g2 => ?_⟩
    · have := r1.1 (by omega); omega
    · by_cases g1 : N < E
      · have := r1.1 g1; omega
      · have := r1.2 (by omega); omega
  · have e1 := f6 q
    have e2 := hr.2 q
    have e3 := hy q
    have u1 : sLx V0 fl si n pr k (8 - depth) c ≤ 99 * ((8 - depth : Nat) : Int) := sL_ub hrs
    have u2 : -1 ≤ sLx V0 fl si n pr k (8 - depth) c := sL_lb hrs
    have hcl : 0 ≤ cell ∧ cell < 144 := by
      rcases id f1 with ⟨q, -⟩ | ⟨px, py, q, ⟨x0, x1⟩, ⟨y0, y1⟩, -⟩
      · exact absurd q f2
      · have := hb.2.1; have := hb.2.2.1; omega
    have pb := hrs.2.2.2.2 c cell hc hcl.1 hcl.2
    rw [eT, ← e1, ← e2]
    rw [← e2] at u1 u2
    unfold f_X7_cheaper at e3
    unfold mCh
    by_cases a : t = -1
    · rw [if_neg (fun q => q a)] at e3
      rw [if_pos a]
      exact (congrArg Prod.fst e3).symm
    · rw [if_pos a] at e3
      rw [if_neg a]
      by_cases b : total = -1
      · rw [if_neg (fun q => q b), bq, dv_add_ok (by omega) (by omega) (by omega) (by omega) (by omega) (by omega)] at e3
        rw [if_pos b]
        exact (congrArg Prod.fst e3).symm
      · rw [if_pos b, bq, bq, dv_add_ok (by omega) (by omega) (by omega) (by omega) (by omega) (by omega)] at e3
        rw [if_neg b]
        exact (congrArg Prod.fst e3).symm
/-- all carpets are through, or there is no more to see -/
theorem s_exit (hS : sS V0 sa fl X si n pr pc) (h : sLp V0 V sa fl X si n pr pc k cell depth c total) (hK : sK V0 fl k left f depth) (hx : n ≤ c ∨ 9 ≤ depth ∨ (V0 sa 12 0 = 0 ∧ V0 sa 13 0 ≤ total)) : sP V0 sa fl si n pr k total := by
  obtain ⟨-, f1, f2, f3, f4, f5, f6⟩ := h
  obtain ⟨-, hb, -, -, -, hrs, -⟩ := id hS
  obtain ⟨-, -, -, -, k5, k6⟩ := hK
  have nf : ¬ ful (cvk V0 fl k) (V0 fl 8 0) (V0 fl 9 0) := fun q => f2 ((fb1_ful f1).mp q)
  unfold sP
  by_cases h9 : 9 ≤ depth
  · have e0 : 9 - uck k = 0 := by omega
    have ec := f4 h9
    subst ec
    rw [e0]
    have eN : sNk V0 fl si n pr 0 k = 0 := sN_0 nf
    have eL : sLk V0 fl si n pr 0 k = -1 := sL_0 nf
    rw [eN, eL]
    exact ⟨f5, f6⟩
  · have e0 : 9 - uck k = (8 - depth) + 1 := by omega
    rw [e0]
    have eN : sNk V0 fl si n pr (8 - depth + 1) k = sM V0 fl si n pr k (8 - depth) n := sN_s nf
    have eL : sLk V0 fl si n pr (8 - depth + 1) k = sT V0 fl si n pr k (8 - depth) n := sL_s nf
    rw [eN, eL]
    by_cases hn : n ≤ c
    · have ec : c = n := by omega
      subst ec
      exact ⟨f5, f6⟩
    · obtain ⟨q, ge⟩ : V0 sa 12 0 = 0 ∧ V0 sa 13 0 ≤ total := by
        rcases hx with hx | hx | hx
        · exact absurd hx hn
        · exact absurd hx h9
        · exact hx
      have m1 : sM V0 fl si n pr k (8 - depth) c ≤ sM V0 fl si n pr k (8 - depth) n := qs_mo (fun i _ => Int.mul_nonneg ip_b.1 (sN_b hrs.1).1) f3
      have q1 := f5 q
      refine ⟨fun _ => ⟨fun g => ?_, fun g => ?_⟩, fun g => absurd q g⟩
      · have := q1.1 (by omega)
        omega
      · by_cases g1 : sM V0 fl si n pr k (8 - depth) c < V0 sa 13 0
        · have := q1.1 g1; omega
        · have := q1.2 (by omega); omega
/-- nothing is left -/
theorem s_leaf (hS : sS V0 sa fl X si n pr pc) (hK : sK V0 fl k left f depth) (hl : left = 0) (e0 : V0 sa 12 0 = 0 → v = 1) (e1 : V0 sa 12 0 ≠ 0 → v = 0) : sP V0 sa fl si n pr k v := by
  obtain ⟨-, hb, -⟩ := id hS
  have hf : ful (cvk V0 fl k) (V0 fl 8 0) (V0 fl 9 0) := (blc_0 hb.2.1.2 hb.2.2.1.2).mp (by rw [← hK.2.1]; exact hl)
  unfold sP
  have eN : sNk V0 fl si n pr (9 - uck k) k = 1 := sN_f hf
  have eL : sLk V0 fl si n pr (9 - uck k) k = 0 := sL_f hf
  rw [eN, eL]
  exact ⟨fun q => ⟨fun _ => e0 q, fun g => by rw [e0 q]; exact ⟨g, Int.le_refl _⟩⟩, e1⟩
/-- what the carpets that could come cover together -/
noncomputable def arS (sd : Nat → Int) (n : Nat) (S : Nat → Prop) : Int := qs (fun c => ip (S c) * (sd c * sd c)) n
theorem arS_w (hc : c < n) (hS : S c) : arS sd n (wo1 S c) = arS sd n S - sd c * sd c := by
  have e : arS sd n S = arS sd n (wo1 S c) + qs (fun i => ip (i = c) * (sd c * sd c)) n := by
    unfold arS
    rw [← qs_ad]
    refine qs_c (fun i _ => ?_)
    by_cases g : i = c
    · subst g
      rw [ip_1 hS, ip_0 (fun q : wo1 S i i => q.2 rfl), ip_1 rfl]
      omega
    · rw [ip_0 g, Int.zero_mul, Int.add_zero]
      congr 1
      exact ip_c ⟨fun q => ⟨q, g⟩, fun q => q.1⟩
  rw [qs_mr, qs_at hc] at e
  omega
/-- too little to fill what is bare -/
theorem s_area (hs : rs n sd pr w h) (hl : arS sd n S < blc C w h) : sN sd pr ag w h n d C S = 0 ∧ sL sd pr ag w h n d C S = -1 := by
  obtain ⟨n9, ⟨w0, w12⟩, ⟨h0, h12⟩, hsd, hp⟩ := hs
  have nn : ∀ S : Nat → Prop, 0 ≤ arS sd n S := fun S => by
    have := qs_le (f := fun _ => (0 : Int)) (g := fun c => ip (S c) * (sd c * sd c)) (n := n) (fun c hc => Int.mul_nonneg ip_b.1 (Int.mul_nonneg (by have := hsd c hc; omega) (by have := hsd c hc; omega)))
    rw [qs_z0] at this
    exact this
  induction d generalizing C S with
  | zero =>
    have f : ¬ ful C w h := fun q => by
      have := (blc_0 w12 h12).mpr q
      have := nn S
      omega
    exact ⟨sN_0 f, sL_0 f⟩
  | succ d ih =>
    have f : ¬ ful C w h := fun q => by
      have := (blc_0 w12 h12).mpr q
      have := nn S
      omega
    have key : ∀ c, c < n → okc sd pr ag w h C S c → sN sd pr ag w h n d (nxC sd w h C c) (wo1 S c) = 0 ∧ sL sd pr ag w h n d (nxC sd w h C c) (wo1 S c) = -1 := by
      intro c hc ok
      refine ih ?_
      obtain ⟨r, k⟩ := fb1_ex (C := C) (w := w) (h := h) w12
      have hr : 0 ≤ fbC C w h := by
        rw [fbC_is w12 k]
        rcases k with ⟨rfl, k1⟩ | ⟨px, py, rfl, ⟨x0, x1⟩, ⟨y0, y1⟩, -⟩
        · exact absurd k1 f
        · omega
      have e1 := arS_w (sd := sd) (n := n) (S := S) hc ok.1
      have e2 : blc (nxC sd w h C c) w h = blc C w h - sd c * sd c := blc_s (by omega) (by omega) (by have := hsd c hc; omega) ok.2.2.1.1 ok.2.2.1.2.1 w12 h12 ok.2.2.1.2.2
      omega
    rw [sN_s f, sL_s f]
    constructor
    · refine (qs_c (g := fun _ => 0) (fun c hc => ?_)).trans qs_z0
      by_cases g : okc sd pr ag w h C S c
      · rw [(key c hc g).1, Int.mul_zero]
      · rw [ip_0 g, Int.zero_mul]
    · have e : ∀ m : Nat, m ≤ n → foC (fun c t => @ite Int (okc sd pr ag w h C S c) (Classical.propDecidable _) (mCh t (sL sd pr ag w h n d (nxC sd w h C c) (wo1 S c)) (pr c (fbC C w h))) t) m (-1) = -1 := by
        intro m
        induction m with
        | zero => exact fun _ => rfl
        | succ m ihm =>
          intro hm
          unfold foC
          rw [ihm (by omega)]
          by_cases g : okc sd pr ag w h C S m
          · rw [if_pos g, (key m (by omega) g).2]
            unfold mCh
            rw [if_pos rfl]
          · rw [if_neg g]
      exact e n (Nat.le_refl _)
end QVI
end
section
section QVJ
variable {V V0 V1 V2 : dV} {X : Int → Nat → Int → Prop} {sa fl si k k' x y s w h z r f cell left en total t p v : Int} {n c d m depth : Nat} {pr pc : Nat → Int → Int} {C : Int → Int → Prop}
theorem blc_b : 0 ≤ blc C w h ∧ blc C w h ≤ 144 := by
  have h1 := qs_b (f := fun x : Nat => qs (fun y : Nat => ip (((x : Int) < w ∧ (y : Int) < h) ∧ ¬ C (x : Int) (y : Int))) 12) (n := 12) (k := 12) (fun x _ => by
    have := qs_b (f := fun y : Nat => ip (((x : Int) < w ∧ (y : Int) < h) ∧ ¬ C (x : Int) (y : Int))) (n := 12) (k := 1) (fun _ _ => ip_b)
    try dsimp only
    omega)
  unfold blc
  omega
/-- a key is no empty slot's -/
theorem lbk_ne {q : Int64} (e : lbk q.toInt 63 = false) : q ≠ -1 := fun g => by
  rw [g, show (-1 : Int64).toInt = -1 from rfl, lb_m1 ⟨63, by decide⟩] at e
  exact absurd e (by decide)
/-- a store into the search's own path -/
theorem s_V4 (h : sV sa X V0 V ∧ pC sa pc V0 V) (e : dv_u V sa 4 y x = V1) : sV sa X V0 V1 ∧ pC sa pc V0 V1 := by
  subst e
  refine ⟨sV_t h.1 (fun b m z q => ?_), fun c z c9 z0 z1 g => ?_, fun z => ?_⟩
  · unfold dv_u
    rw [if_neg (fun g => q (Or.inl ⟨g.1, Or.inr (Or.inr (Or.inl g.2.1))⟩))]
  · have e1 : ∀ i, dv_u V sa 4 y x sa 1 i = V sa 1 i := fun i => if_neg (fun g => absurd g.2.1 (by decide))
    have e2 : ∀ i, dv_u V sa 4 y x sa 2 i = V sa 2 i := fun i => if_neg (fun g => absurd g.2.1 (by decide))
    rw [e1]
    rw [e2] at g
    exact h.2.1 c z c9 z0 z1 g
  · rw [show dv_u V sa 4 y x sa 2 z = V sa 2 z from if_neg (fun g => absurd g.2.1 (by decide))]
    exact h.2.2 z
/-- and of its length -/
theorem s_V5 (h : sV sa X V0 V ∧ pC sa pc V0 V) (e : dv_u V sa 5 y x = V1) : sV sa X V0 V1 ∧ pC sa pc V0 V1 := by
  subst e
  refine ⟨sV_t h.1 (fun b m z q => ?_), fun c z c9 z0 z1 g => ?_, fun z => ?_⟩
  · unfold dv_u
    rw [if_neg (fun g => q (Or.inl ⟨g.1, Or.inr (Or.inr (Or.inr (Or.inl g.2.1)))⟩))]
  · have e1 : ∀ i, dv_u V sa 5 y x sa 1 i = V sa 1 i := fun i => if_neg (fun g => absurd g.2.1 (by decide))
    have e2 : ∀ i, dv_u V sa 5 y x sa 2 i = V sa 2 i := fun i => if_neg (fun g => absurd g.2.1 (by decide))
    rw [e1]
    rw [e2] at g
    exact h.2.1 c z c9 z0 z1 g
  · rw [show dv_u V sa 5 y x sa 2 z = V sa 2 z from if_neg (fun g => absurd g.2.1 (by decide))]
    exact h.2.2 z
/-- what only X has changed -/
theorem s_VX (nX : ∀ m z, ¬ X sa m z) (h : sV sa X V0 V ∧ pC sa pc V0 V) (e : ∀ b m z, ¬ X b m z → V1 b m z = V b m z) : sV sa X V0 V1 ∧ pC sa pc V0 V1 := by
  refine ⟨fun b m z q => (e b m z (fun g => q (Or.inr g))).trans (h.1 b m z q), fun c z c9 z0 z1 g => ?_, fun z => by rw [e _ _ _ (nX _ _)]; exact h.2.2 z⟩
  rw [e _ _ _ (nX _ _)]
  rw [e _ _ _ (nX _ _)] at g
  exact h.2.1 c z c9 z0 z1 g
/-- a price is asked -/
theorem s_pr (hS : sS V0 sa fl X si n pr pc) (hV : sV sa X V0 V ∧ pC sa pc V0 V) (hc : c < n) (z0 : 0 ≤ z) (z1 : z < 144) (e : f_X7_priceAt V sa (c : Int) z = (V1, p)) : (sV sa X V0 V1 ∧ pC sa pc V0 V1) ∧ (p = -1 ↔ pr c z = -1) ∧ (V0 sa 12 0 ≠ 0 → p = pr c z) := by
  obtain ⟨-, -, -, -, -, -, hp⟩ := hS
  obtain ⟨V', p', e1, e2, e3, e4, e5⟩ := hp V hV.1 hV.2 c z hc z0 z1
  rw [e] at e1
  obtain ⟨rfl, rfl⟩ := Prod.mk.inj e1
  exact ⟨⟨e2, e3⟩, e4, e5⟩
/-- a carpet that has no place there -/
theorem s_no1 (hS : sS V0 sa fl X si n pr pc) (h : sLp V0 V sa fl X si n pr pc k cell depth c total) (hc : c < n) (hd : depth < 9) (e : f_X7_fits V sa k (c : Int) cell = (t, ())) (ht : t = 0) : sLp V0 V sa fl X si n pr pc k cell depth (c + 1) total := by
  obtain ⟨-, -, f3⟩ := s_fits0 hS h hc e
  have eF : fbC (cvk V0 fl k) (V0 fl 8 0) (V0 fl 9 0) = cell := fbC_is hS.2.1.2.1.2 h.2.1
  refine s_skip h hc hd h.1.1 h.1.2 (fun ok => ?_)
  obtain ⟨o1, -, o3, o4⟩ := ok
  rw [eF] at o3 o4
  have := f3.mpr ⟨o1, o3, o4⟩
  omega
/-- a carpet that is barred there -/
theorem s_no2 (hS : sS V0 sa fl X si n pr pc) (h : sLp V0 V sa fl X si n pr pc k cell depth c total) (hc : c < n) (hd : depth < 9) (h1 : sV sa X V0 V1 ∧ pC sa pc V0 V1) (hp : pr c cell = -1) : sLp V0 V1 sa fl X si n pr pc k cell depth (c + 1) total := by
  have eF : fbC (cvk V0 fl k) (V0 fl 8 0) (V0 fl 9 0) = cell := fbC_is hS.2.1.2.1.2 h.2.1
  refine s_skip h hc hd h1.1 h1.2 (fun ok => ?_)
  obtain ⟨-, o2, -⟩ := ok
  rw [eF] at o2
  exact o2 hp
/-- a carpet that can come -/
theorem s_ok (hS : sS V0 sa fl X si n pr pc) (h : sLp V0 V sa fl X si n pr pc k cell depth c total) (hc : c < n) (e : f_X7_fits V sa k (c : Int) cell = (t, ())) (ht : t ≠ 0) (hp : pr c cell ≠ -1) : (rdk V0 fl k c ∧ (cell % 12 + V0 fl 0 (c : Int) ≤ V0 fl 8 0 ∧ cell / 12 + V0 fl 0 (c : Int) ≤ V0 fl 9 0 ∧ fpl (cvk V0 fl k) (V0 fl 0 (c : Int)) (cell % 12) (cell / 12))) ∧ okc (sSD V0 fl) pr (sAG V0 fl si) (V0 fl 8 0) (V0 fl 9 0) (cvk V0 fl k) (rdk V0 fl k) c := by
  obtain ⟨-, f2, f3⟩ := s_fits0 hS h hc e
  have eF : fbC (cvk V0 fl k) (V0 fl 8 0) (V0 fl 9 0) = cell := fbC_is hS.2.1.2.1.2 h.2.1
  obtain ⟨o1, o3, o4⟩ := f3.mp (f2.resolve_right ht)
  refine ⟨⟨o1, o3⟩, o1, ?_, ?_, ?_⟩
  · rw [eF]; exact hp
  · rw [eF]; exact o3
  · rw [eF]; exact o4
/-- a call's price of what is left -/
theorem s_left (hS : sS V0 sa fl X si n pr pc) (hK : sK V0 fl k left f depth) (hc : c < n) (hv : V0 fl 0 (c : Int) = v) (ht : t = v * v) (hx : x = dv_sub left t) : x = left - V0 fl 0 (c : Int) * V0 fl 0 (c : Int) := by
  have b := blc_b (C := cvk V0 fl k) (w := V0 fl 8 0) (h := V0 fl 9 0)
  rw [← hK.2.1] at b
  have hsc := hS.2.2.2.2.2.1.2.2.2.1 c hc
  try dsimp only at hsc
  rw [hv] at hsc ⊢
  have m1 : 0 ≤ v * v := Int.mul_nonneg (by omega) (by omega)
  have m2 : v * v ≤ 12 * 12 := Int.mul_le_mul hsc.2 hsc.2 (by omega) (by omega)
  rw [hx, ht, dv_sub_ok (by omega) (by omega) (by omega) (by omega) (by omega) (by omega)]
end QVJ
section QVK
variable {V V0 V1 V2 V3 V4 V5 : dV} {X M : Int → Nat → Int → Prop} {sa fl si k k' x y s w h z r f cell left en ch total t p v : Int} {n c d m depth : Nat} {pr pc : Nat → Int → Int} {C : Int → Int → Prop}
theorem ub_n {a b i : Int} {j : Nat} (h : ¬ (b = a ∧ m = j)) : dv_u V a j i x b m z = V b m z := if_neg (fun g => h ⟨g.1, g.2.1⟩)
theorem ub_e {a i : Int} {j : Nat} : dv_u V a j i x a j i = x := if_pos ⟨rfl, rfl, rfl⟩
/-- a round begins -/
def sB (sa ch en : Int) (M : Int → Nat → Int → Prop) (V V' : dV) : Prop := (∀ b m z, ¬ (b = sa ∧ (m = 5 ∨ m = 6 ∨ m = 12 ∨ m = 13)) → ¬ M b m z → V' b m z = V b m z) ∧ V' sa 12 0 = ch ∧ V' sa 13 0 = en ∧ V' sa 6 0 = dv_add (V sa 6 0) 1
theorem sB_mk (nM : ∀ m z, ¬ M sa m z) (e1 : dv_u V sa 12 0 ch = V1) (e2 : dv_u V1 sa 13 0 en = V2) (e3 : ∀ b m z, ¬ M b m z → V3 b m z = V2 b m z) (e4 : dv_u V3 sa 6 0 r = V4) (er : r = dv_add (V3 sa 6 0) 1) (e5 : dv_u V4 sa 5 0 x = V5) : sB sa ch en M V V5 := by
  refine ⟨fun b m z q nb => ?_, ?_, ?_, ?_⟩
  · rw [← e5, ub_n (fun g => q ⟨g.1, Or.inl g.2⟩), ← e4, ub_n (fun g => q ⟨g.1, Or.inr (Or.inl g.2)⟩), e3 b m z nb, ← e2, ub_n (fun g => q ⟨g.1, Or.inr (Or.inr (Or.inr g.2))⟩), ← e1, ub_n (fun g => q ⟨g.1, Or.inr (Or.inr (Or.inl g.2))⟩)]
  · rw [← e5, ub_n (fun g => absurd g.2 (by decide)), ← e4, ub_n (fun g => absurd g.2 (by decide)), e3 _ _ _ (nM _ _), ← e2, ub_n (fun g => absurd g.2 (by decide)), ← e1, ub_e]
  · rw [← e5, ub_n (fun g => absurd g.2 (by decide)), ← e4, ub_n (fun g => absurd g.2 (by decide)), e3 _ _ _ (nM _ _), ← e2, ub_e]
  · rw [← e5, ub_n (fun g => absurd g.2 (by decide)), ← e4, ub_e, er, e3 _ _ _ (nM _ _), ← e2, ub_n (fun g => absurd g.2 (by decide)), ← e1, ub_n (fun g => absurd g.2 (by decide))]
theorem q_areaReady (hf : V sa 8 0 = fl) (h7 : V fl 7 0 = (n : Int)) (n9 : n ≤ 9) (hsd : ∀ c : Nat, c < n → 1 ≤ V fl 0 (c : Int) ∧ V fl 0 (c : Int) ≤ 12) : f_X7_areaReady V sa = (arS (fun c => V fl 0 (c : Int)) n (fun c => (c : Int) < V fl 7 0 ∧ V fl 3 (c : Int) = -1 ∧ 0 < V fl 2 (c : Int)), ()) := by
  have hb : ∀ i, i ≤ n → 0 ≤ arS (fun c => V fl 0 (c : Int)) i (fun c => (c : Int) < V fl 7 0 ∧ V fl 3 (c : Int) = -1 ∧ 0 < V fl 2 (c : Int)) ∧ arS (fun c => V fl 0 (c : Int)) i (fun c => (c : Int) < V fl 7 0 ∧ V fl 3 (c : Int) = -1 ∧ 0 < V fl 2 (c : Int)) ≤ 144 * (i : Int) := fun i hi => by
    unfold arS
    refine qs_b (fun c hc => ?_)
    have h1 := hsd c (by omega)
    have m1 : 0 ≤ V fl 0 (c : Int) * V fl 0 (c : Int) := Int.mul_nonneg (by omega) (by omega)
    have m2 : V fl 0 (c : Int) * V fl 0 (c : Int) ≤ 12 * 12 := Int.mul_le_mul h1.2 h1.2 (by omega) (by omega)
    try dsimp only
    by_cases g : (c : Int) < V fl 7 0 ∧ V fl 3 (c : Int) = -1 ∧ 0 < V fl 2 (c : Int)
    · rw [ip_1 g, Int.one_mul]; omega
    · rw [ip_0 g, Int.zero_mul]; omega
  unfold f_X7_areaReady
  refine dv_for (b := f_X7_areaReady_4b) (s := fun i : Nat => (V, sa, arS (fun c => V fl 0 (c : Int)) i (fun c => (c : Int) < V fl 7 0 ∧ V fl 3 (c : Int) = -1 ∧ 0 < V fl 2 (c : Int)), (i : Int))) (n := n) (fun i hi => ?_) ?_
  · have b1 := hb i (by omega)
    have h1 := hsd i hi
    have m1 : 0 ≤ V fl 0 (i : Int) * V fl 0 (i : Int) := Int.mul_nonneg (by omega) (by omega)
    have m2 : V fl 0 (i : Int) * V fl 0 (i : Int) ≤ 12 * 12 := Int.mul_le_mul h1.2 h1.2 (by omega) (by omega)
    have e2 : arS (fun c => V fl 0 (c : Int)) (i + 1) (fun c => (c : Int) < V fl 7 0 ∧ V fl 3 (c : Int) = -1 ∧ 0 < V fl 2 (c : Int)) = arS (fun c => V fl 0 (c : Int)) i (fun c => (c : Int) < V fl 7 0 ∧ V fl 3 (c : Int) = -1 ∧ 0 < V fl 2 (c : Int)) + ip ((i : Int) < V fl 7 0 ∧ V fl 3 (i : Int) = -1 ∧ 0 < V fl 2 (i : Int)) * (V fl 0 (i : Int) * V fl 0 (i : Int)) := rfl
    show f_X7_areaReady_4c V sa (arS (fun c => V fl 0 (c : Int)) i (fun c => (c : Int) < V fl 7 0 ∧ V fl 3 (c : Int) = -1 ∧ 0 < V fl 2 (c : Int))) (i : Int) = Sum.inl (V, sa, arS (fun c => V fl 0 (c : Int)) (i + 1) (fun c => (c : Int) < V fl 7 0 ∧ V fl 3 (c : Int) = -1 ∧ 0 < V fl 2 (c : Int)), ((i + 1 : Nat) : Int))
    rw [e2]
    generalize arS (fun c => V fl 0 (c : Int)) i (fun c => (c : Int) < V fl 7 0 ∧ V fl 3 (c : Int) = -1 ∧ 0 < V fl 2 (c : Int)) = A at b1 ⊢
    unfold f_X7_areaReady_4c
    rw [bq, hf, bq, if_neg (show ¬ V fl 7 0 ≤ (i : Int) by omega), bq, dv_bn2 q_isReady]
    by_cases g : (i : Int) < V fl 7 0 ∧ V fl 3 (i : Int) = -1 ∧ 0 < V fl 2 (i : Int)
    · rw [if_pos (show (0 ≤ (i : Int) ∧ (i : Int) < V fl 7 0) ∧ V fl 3 (i : Int) = -1 ∧ 0 < V fl 2 (i : Int) from ⟨⟨by omega, g.1⟩, g.2⟩), if_neg (by decide), bq, bq, bq, bq, bq, ip_1 g, Int.one_mul]
      unfold f_X7_areaReady_50
      rw [bq, bq, dv_add_ok (by omega) (by omega) (by omega) (by omega) (by omega) (by omega)]
      rfl
    · rw [if_neg (show ¬ ((0 ≤ (i : Int) ∧ (i : Int) < V fl 7 0) ∧ V fl 3 (i : Int) = -1 ∧ 0 < V fl 2 (i : Int)) from fun q => g ⟨q.1.2, q.2⟩), if_pos rfl, ip_0 g, Int.zero_mul]
      unfold f_X7_areaReady_50
      rw [bq, bq, dv_add_ok (by omega) (by omega) (by omega) (by omega) (by omega) (by omega)]
      rfl
  · show f_X7_areaReady_4c V sa _ (n : Int) = _
    unfold f_X7_areaReady_4c
    rw [bq, hf, bq, if_pos (show V fl 7 0 ≤ (n : Int) by omega)]
theorem s_ready (hS : sS V sa fl X si n pr pc) (e : f_X7_areaReady V sa = (x, ())) : x = arS (sSD V fl) n (rdk V fl 0) := by
  obtain ⟨⟨s1, s2, s3⟩, -, -, -, -, hrs, -⟩ := hS
  have h := q_areaReady s1 s3 hrs.1 (fun c hc => hrs.2.2.2.1 c hc)
  rw [e] at h
  refine (congrArg Prod.fst h).trans ?_
  unfold arS
  refine qs_c (fun c _ => ?_)
  try dsimp only
  rw [ip_c (show ((c : Int) < V fl 7 0 ∧ V fl 3 (c : Int) = -1 ∧ 0 < V fl 2 (c : Int)) ↔ rdk V fl 0 c from ⟨fun g => ⟨g, lb_0⟩, fun g => g.1⟩)]
theorem uck_0 : uck 0 = 0 := by
  have h : qs (fun i => if lbk 0 (48 + i) = true then 1 else 0) 9 = 0 := (qs_c (g := fun _ => (0 : Int)) (fun i _ => by rw [lb_0]; rfl)).trans qs_z0
  unfold uck
  rw [h]
  rfl
theorem s_K0 (e : left = blc (cvk V fl 0) (V fl 8 0) (V fl 9 0)) : sK V fl 0 left 0 0 := ⟨lb_0, e, ⟨by decide, by decide⟩, fun px py a0 a1 b0 b1 g => absurd g (by omega), uck_0.symm, by decide⟩
theorem s_none (hS : sS V sa fl X si n pr pc) (hl : arS (sSD V fl) n (rdk V fl 0) < blc (cvk V fl 0) (V fl 8 0) (V fl 9 0)) (he : 1 ≤ en) (h0 : ch = 0 → v = 0) (h1 : ch ≠ 0 → v = -1) : sNd ch en (sNk V fl si n pr 9 0) (sLk V fl si n pr 9 0) v := by
  obtain ⟨a, b⟩ := s_area (sd := sSD V fl) (pr := pr) (ag := sAG V fl si) (d := 9) hS.2.2.2.2.2.1 hl
  have e1 : sNk V fl si n pr 9 0 = 0 := a
  have e2 : sLk V fl si n pr 9 0 = -1 := b
  rw [e1, e2]
  exact ⟨fun q => ⟨fun _ => h0 q, fun g => absurd g (by omega)⟩, h1⟩
theorem s_fin (e1 : V sa 12 0 = ch) (e2 : V sa 13 0 = en) (h : sP V sa fl si n pr 0 v) : sNd ch en (sNk V fl si n pr 9 0) (sLk V fl si n pr 9 0) v := by
  unfold sP at h
  rw [e1, e2, uck_0] at h
  exact h
theorem s_bare (hB : sB sa ch en X V0 V) (hS : sS V sa fl X si n pr pc) (e : V0 sa 11 0 = blc (cvk V0 fl 0) (V0 fl 8 0) (V0 fl 9 0)) : V sa 11 0 = blc (cvk V fl 0) (V fl 8 0) (V fl 9 0) := by
  obtain ⟨-, -, -, -, ⟨nX, ⟨nf, nXf⟩, -⟩, -⟩ := hS
  have ef : ∀ m z, V fl m z = V0 fl m z := fun m z => hB.1 fl m z (fun g => nf g.1) (nXf m z)
  have ec : cvk V fl 0 = cvk V0 fl 0 := by
    unfold cvk
    funext px py
    rw [ef]
  rw [hB.1 sa 11 0 (fun g => by rcases g.2 with q | q | q | q <;> exact absurd q (by decide)) (nX _ _), e, ec, ef 8, ef 9]
end QVK
section QVL
variable {V V' V0 V1 V2 V59 W : dV} {X : Int → Nat → Int → Prop} {sa fl f0 si k x y s w h z r f jd rk lx a u t p v κ : Int} {n c d m : Nat} {pr pc : Nat → Int → Int}
/-- the judge's ground is the same in a state that differs elsewhere -/
theorem jd_fr (h : jd_ok V0 W jd rk fl lx a) (ej : V jd 0 0 = V0 jd 0 0) (el : ∀ m z, V lx m z = V0 lx m z) (ef : ∀ m z, m ≠ 6 → V fl m z = V0 fl m z) (er : ∀ z, 8 ≤ z → V rk 1 z = V0 rk 1 z) : jd_ok V W jd rk fl lx a := by
  obtain ⟨h1, h2, h3, h4, h5, h6, h7, h8⟩ := h
  have elx : V lx = V0 lx := by funext m z; exact el m z
  have efl : fl_eq (V0 fl) (V fl) := fun j c _ h6 => (ef j c h6).symm
  refine ⟨ej.trans h1, h2, h3, h4, ?_, fl_ef9 efl h6, fl_kg efl h7, fun k k0 k1 => by rw [er k k0]; exact h8 k k0 k1⟩
  unfold lw_ok at h5 ⊢
  rw [elx]
  exact h5
/-- where no law is, none holds -/
theorem h_none : f_X2_holds V jd (-1) κ = (V, 0) := by
  unfold f_X2_holds f_X2_holds_0
  rw [if_pos rfl]
  refine dv_lp_e ?_
  rw [f_X2_holds_0_15e]
  unfold f_X2_holds_0_15c
  rw [if_pos (by decide)]
theorem prV_n (h : jd_ok V W jd rk fl (-1) a) : prV V jd fl (-1) c z = V fl 0 (c : Int) := by
  obtain ⟨h1, h2, h3, -⟩ := h
  obtain ⟨V1, e1, F1, -⟩ := c_words (V := V) (c := (c : Int)) (px := z % 12) (py := z / 12) h3
  have eb : f_X2_isBarred V jd (-1) fl (c : Int) (z % 12) (z / 12) = (V1, 0) := by
    unfold f_X2_isBarred
    rw [bq, h1, dv_bn2 e1, dv_bn2 h_none]
  have ec : f_X2_costOf V jd (-1) fl (c : Int) (z % 12) (z / 12) = (V1, V fl 0 (c : Int)) := by
    unfold f_X2_costOf
    rw [bq, h1, dv_bn2 e1, dv_bn2 h_none, if_pos rfl, bq, F1.1 fl 0 _ (fun q => h3 q.1)]
  unfold prV
  rw [eb, ec]
  exact if_pos rfl
/-- floors of which a law says the same -/
def fsm (V : dV) (fl f0 : Int) : Prop := (∀ c, 0 ≤ c → c < 9 → V fl 0 c = V f0 0 c ∧ V fl 1 c = V f0 1 c ∧ V fl 2 c = V f0 2 c) ∧ V fl 5 0 = V f0 5 0 ∧ V fl 5 2 = V f0 5 2 ∧ V fl 7 0 = V f0 7 0
theorem fsm_r : fsm V fl fl := ⟨fun _ _ _ => ⟨rfl, rfl, rfl⟩, rfl, rfl, rfl⟩
theorem w_sm (hs : fsm V fl f0) (n1 : fl ≠ rk) (n0 : f0 ≠ rk) (c0 : 0 ≤ x) (c9 : x < 9) : f_X6_setLawWords V rk fl x y z = f_X6_setLawWords V rk f0 x y z := by
  have k1 : ∀ (U : dV) (i y : Int) (m : Nat) (z' : Int), dv_u U rk 1 i y fl m z' = U fl m z' := fun U z y m z' => u_b n1
  have k0 : ∀ (U : dV) (i y : Int) (m : Nat) (z' : Int), dv_u U rk 1 i y f0 m z' = U f0 m z' := fun U z y m z' => u_b n0
  obtain ⟨h1, h2, h3, -⟩ := hs
  obtain ⟨a1, a2, a3⟩ := h1 x c0 c9
  unfold f_X6_setLawWords
  simp only [bq, k1, k0, a1, a2, a3, h2, h3]
theorem j_bar (h : jd_ok V W jd rk f0 lx a) (hs : fsm V fl f0) (n1 : fl ≠ rk) (c0 : 0 ≤ x) (c9 : x < 9) : f_X2_isBarred V jd lx fl x y z = f_X2_isBarred V jd lx f0 x y z := by
  unfold f_X2_isBarred
  rw [bq, bq, h.1, w_sm hs n1 h.2.2.1 c0 c9]
theorem j_cost (h : jd_ok V W jd rk f0 lx a) (hs : fsm V fl f0) (n1 : fl ≠ rk) (c0 : 0 ≤ x) (c1 : x < V f0 7 0) (hy : 0 ≤ y ∧ y ≤ 11) (hz : 0 ≤ z ∧ z ≤ 11) : f_X2_costOf V jd lx fl x y z = f_X2_costOf V jd lx f0 x y z := by
  obtain ⟨h1, h2, h3, h4, h5, h6, h7, h8⟩ := id h
  have c9 : x < 9 := by have := h7.1.1; omega
  obtain ⟨V1, V', u, W', v, e1, F1, f1, f2, f3, f4, f5⟩ := jd_ask (κ := 0) (px := y) (py := z) (high := 99) (wo := 0) h c0 c1 (by omega) (by omega) (by decide) (by decide)
  have e : V' fl 0 x = V' f0 0 x := by
    rw [f3.1 fl 0 x (fun q => n1 q.1), f3.1 f0 0 x (fun q => h3 q.1)]
    exact (hs.1 x c0 c9).1
  unfold f_X2_costOf
  rw [bq, bq, h1, w_sm hs n1 h3 c0 c9, dv_bn2 e1, dv_bn2 e1, dv_bn2 f1, dv_bn2 f1, e]
/-- what a carpet costs at a cell, as the reference has it; -1: it may not lie there -/
noncomputable def prW (W : dV) (a : Int) (c : Nat) (z : Int) : Int := if (f_X12_isBarred W a (c : Int) (z % 12) (z / 12)).2 = 0 then (f_X12_costsAt W a (c : Int) (z % 12) (z / 12)).2 else -1
theorem prW_b (h : jd_ok V W jd rk f0 lx a) (hc : (c : Int) < V f0 7 0) (z0 : 0 ≤ z) (z1 : z < 144) : (-1 ≤ prW W a c z ∧ prW W a c z ≤ 99) ∧ prV V jd f0 lx c z = prW W a c z := by
  obtain ⟨V', W', t, v1, w1, -, -, hy⟩ := q_bar (px := z % 12) (py := z / 12) h (by omega) hc (by omega) (by omega)
  obtain ⟨V2, W2, t2, v2, w2, -, -, hy2⟩ := q_cost (px := z % 12) (py := z / 12) h (by omega) hc (by omega) (by omega)
  unfold prV prW
  rw [v1, v2, w1, w2]
  dsimp only
  split
  · exact ⟨by omega, rfl⟩
  · exact ⟨by decide, rfl⟩
/-- the class's price in a round -/
def pcV (ch p : Int) : Int := if p = -1 then -1 else if ch = 0 then 0 else p
theorem s_kj (hX : ∀ m z, m ≤ 3 → ¬ (m = 1 ∧ 8 ≤ z) → X rk m z) (h : sV sa X V0 V) (k : kj_fr rk V V') : sV sa X V0 V' := fun b m z q => by
  refine Eq.trans ?_ (h b m z q)
  by_cases g : b = rk ∧ m ≤ 3
  · obtain ⟨rfl, g2⟩ := g
    by_cases g3 : m = 1 ∧ 8 ≤ z
    · obtain ⟨rfl, g4⟩ := g3
      exact k.2 z g4
    · exact absurd (Or.inr (hX m z g2 g3)) q
  · exact k.1 b m z g
theorem s_store (nr : sa ≠ rk) (hP : pC sa pc V0 V) (h59 : dv_u V sa 2 (144 * (c : Int) + z) u = V59) (hu : u ≤ V0 sa 6 0) (k : kj_fr rk V59 V1) (z0 : 0 ≤ z) (z1 : z < 144) (hp : p = pc c z) : pC sa pc V0 (dv_u V1 sa 1 (144 * (c : Int) + z) p) := by
  have e1 : ∀ m i, V1 sa m i = V59 sa m i := fun m i => k.1 sa m i (fun q => nr q.1)
  have e2 : ∀ i, dv_u V1 sa 1 (144 * (c : Int) + z) p sa 2 i = if i = 144 * (c : Int) + z then u else V sa 2 i := fun i => by
    rw [ub_n (fun g => absurd g.2 (by decide)), e1, ← h59]
    unfold dv_u
    by_cases g : i = 144 * (c : Int) + z
    · rw [if_pos ⟨rfl, rfl, g⟩, if_pos g]
    · rw [if_neg (fun q => g q.2.2), if_neg g]
  refine ⟨fun c' z' c9' z0' z1' g => ?_, fun i => ?_⟩
  · by_cases ei : 144 * (c' : Int) + z' = 144 * (c : Int) + z
    · have ec : c' = c := by omega
      have ez : z' = z := by omega
      subst ec
      subst ez
      rw [ub_e]
      exact hp
    · rw [e2, if_neg ei] at g
      rw [show dv_u V1 sa 1 (144 * (c : Int) + z) p sa 1 (144 * (c' : Int) + z') = V1 sa 1 (144 * (c' : Int) + z') from if_neg (fun g => ei g.2.2), e1, ← h59, ub_n (fun g => absurd g.2 (by decide))]
      exact hP.1 c' z' c9' z0' z1' g
  · rw [e2]
    split
    · exact hu
    · exact hP.2 i
/-- what a price is asked for; f0: a floor of which the law says the same as of the search's own -/
theorem q_priceAt (hJ : jd_ok V0 W jd rk f0 lx a) (hs : fsm V0 fl f0) (nf : fl ≠ rk) (h7 : V0 sa 7 0 = jd) (h8 : V0 sa 8 0 = fl) (h9 : V0 sa 9 0 = lx) (nX : (∀ m z, ¬ X sa m z) ∧ (∀ m z, ¬ X jd m z) ∧ ((∀ m z, ¬ X fl m z) ∧ ∀ m z, ¬ X f0 m z) ∧ (∀ m z, ¬ X lx m z) ∧ ∀ z, 8 ≤ z → ¬ X rk 1 z) (na : jd ≠ sa ∧ (fl ≠ sa ∧ f0 ≠ sa) ∧ lx ≠ sa ∧ sa ≠ rk) (hX : ∀ m z, m ≤ 3 → ¬ (m = 1 ∧ 8 ≤ z) → X rk m z) (hpc : ∀ c z, pc c z = pcV (V0 sa 12 0) (prW W a c z)) (hV : sV sa X V0 V) (hP : pC sa pc V0 V) (hc : (c : Int) < V0 f0 7 0) (c9 : c < 9) (z0 : 0 ≤ z) (z1 : z < 144) : ∃ (V' : dV) (p : Int), f_X7_priceAt V sa (c : Int) z = (V', p) ∧ sV sa X V0 V' ∧ pC sa pc V0 V' ∧ (p = -1 ↔ prW W a c z = -1) ∧ (V0 sa 12 0 ≠ 0 → p = prW W a c z) := by
  obtain ⟨x1, x2, ⟨x3, x3'⟩, x4, x5⟩ := nX
  obtain ⟨n1, ⟨n2, n2'⟩, n3, n4⟩ := na
  have fl0 : ∀ {U : dV}, sV sa X V0 U → (∀ m z, U fl m z = V0 fl m z) ∧ ∀ m z, U f0 m z = V0 f0 m z := fun {U} hU => ⟨fun m z => hU fl m z (fun g => g.elim (fun q => n2 q.1) (x3 m z)), fun m z => hU f0 m z (fun g => g.elim (fun q => n2' q.1) (x3' m z))⟩
  have st : ∀ {U : dV}, sV sa X V0 U → (∀ m z, ¬ (m = 1 ∨ m = 2 ∨ m = 4 ∨ m = 5 ∨ m = 3) → U sa m z = V0 sa m z) ∧ jd_ok U W jd rk f0 lx a ∧ fsm U fl f0 := fun {U} hU => by
    obtain ⟨g1, g2⟩ := fl0 hU
    refine ⟨fun m z hm => hU sa m z (fun g => g.elim (fun q => hm q.2) (x1 m z)), jd_fr hJ (hU jd 0 0 (fun g => g.elim (fun q => n1 q.1) (x2 0 0))) (fun m z => hU lx m z (fun g => g.elim (fun q => n3 q.1) (x4 m z))) (fun m z _ => g2 m z) (fun z hz => hU rk 1 z (fun g => g.elim (fun q => n4 q.1.symm) (x5 z hz))), fun c c0 c9 => ?_, ?_, ?_, ?_⟩
    · rw [g1, g1, g1, g2, g2, g2]; exact hs.1 c c0 c9
    · rw [g1, g2]; exact hs.2.1
    · rw [g1, g2]; exact hs.2.2.1
    · rw [g1, g2]; exact hs.2.2.2
  obtain ⟨sa0, -⟩ := st hV
  have a6 := sa0 6 0 (by decide)
  have a7 := (sa0 7 0 (by decide)).trans h7
  have a8 := (sa0 8 0 (by decide)).trans h8
  have a9 := (sa0 9 0 (by decide)).trans h9
  unfold f_X7_priceAt
  by_cases hlx : lx = -1
  · subst hlx
    have ep : V fl 0 (c : Int) = prW W a c z := by
      rw [(fl0 hV).1, (hs.1 (c : Int) (by omega) (by omega)).1, ← prV_n (c := c) (z := z) hJ]
      exact (prW_b hJ hc z0 z1).2
    rw [bq, a9, if_pos rfl, bq, a8, bq]
    exact ⟨V, _, rfl, hV, hP, by rw [ep], fun _ => ep⟩
  obtain ⟨Vb, Wb, tb, vb, wb, -, -, hb⟩ := q_bar (px := z % 12) (py := z / 12) hJ (by omega) hc (by omega) (by omega)
  obtain ⟨Vc, Wc, yc, vc, wc, -, -, hc0, hc1⟩ := q_cost (px := z % 12) (py := z / 12) hJ (by omega) hc (by omega) (by omega)
  have ep : prW W a c z = if tb = 0 then yc else -1 := by
    unfold prW
    rw [wb, wc]
  rw [bq, a9, if_neg hlx, bq, bq, bq, bq, show (c : Int) * 144 + z = 144 * (c : Int) + z by omega]
  by_cases e : V sa 2 (144 * (c : Int) + z) = V sa 6 0
  · rw [if_pos e, bq]
    have e1 := hP.1 c z c9 z0 z1 (by rw [e, a6])
    refine ⟨V, _, rfl, hV, hP, ?_, fun q => ?_⟩
    · rw [e1, hpc]
      unfold pcV
      by_cases g : prW W a c z = -1
      · rw [if_pos g]; exact ⟨fun _ => g, fun _ => rfl⟩
      · rw [if_neg g]
        refine ⟨fun q => ?_, fun q => absurd q g⟩
        by_cases g2 : V0 sa 12 0 = 0
        · rw [if_pos g2] at q; exact absurd q (by decide)
        · rw [if_neg g2] at q; exact q
    · rw [e1, hpc]
      unfold pcV
      by_cases g : prW W a c z = -1
      · rw [if_pos g]; exact g.symm
      · rw [if_neg g, if_neg q]
  · rw [if_neg e, bq, bq, bq, bq]
    obtain ⟨V59, h59⟩ : ∃ U, dv_u V sa 2 (144 * (c : Int) + z) (V sa 6 0) = U := ⟨_, rfl⟩
    rw [h59]
    have hV59 : sV sa X V0 V59 := sV_t hV (fun b m z q => by
      rw [← h59]
      exact ub_n (fun g => q (Or.inl ⟨g.1, Or.inr (Or.inl g.2)⟩)))
    obtain ⟨sb, jb, fb9⟩ := st hV59
    have b7 := (sb 7 0 (by decide)).trans h7
    have b8 := (sb 8 0 (by decide)).trans h8
    have b9 := (sb 9 0 (by decide)).trans h9
    have hc59 : (c : Int) < V59 f0 7 0 := by
      rw [(fl0 hV59).2]
      exact hc
    obtain ⟨V1, W1, t, v1, w1, k1, -, ht⟩ := q_bar (px := z % 12) (py := z / 12) jb (by omega) hc59 (by omega) (by omega)
    have et : t = tb := by
      rw [wb] at w1
      exact (congrArg Prod.snd w1).symm
    have hV1 := s_kj hX hV59 k1
    obtain ⟨sc, jc, fc9⟩ := st hV1
    rw [bq, bq, bq, b7, b8, b9, dv_bn2 ((j_bar jb fb9 nf (by omega) (by omega)).trans v1)]
    have fin : ∀ {U : dV} {q : Int}, kj_fr rk V59 U → q = pcV (V0 sa 12 0) (prW W a c z) → (q = -1 ↔ prW W a c z = -1) → (V0 sa 12 0 ≠ 0 → q = prW W a c z) → ∃ (V' : dV) (p : Int), f_X7_priceAt_123 U (144 * (c : Int) + z) sa q = (V', p) ∧ sV sa X V0 V' ∧ pC sa pc V0 V' ∧ (p = -1 ↔ prW W a c z = -1) ∧ (V0 sa 12 0 ≠ 0 → p = prW W a c z) := fun {U q} kU q1 q2 q3 => by
      unfold f_X7_priceAt_123
      rw [bq, bq]
      refine ⟨_, _, rfl, sV_t (s_kj hX hV59 kU) (fun b m z g => ub_n (fun g2 => g (Or.inl ⟨g2.1, Or.inl g2.2⟩))), s_store n4 hP h59 (by omega) kU z0 z1 (by rw [hpc]; exact q1), ?_, ?_⟩
      · rw [ub_e]; exact q2
      · rw [ub_e]; exact q3
    by_cases e0 : t = 0
    · rw [if_pos e0, bq, sc 12 0 (by decide)]
      have ep2 : prW W a c z = yc := by rw [ep, if_pos (by omega)]
      have nn : ¬ (prW W a c z = -1) := by omega
      by_cases ec : V0 sa 12 0 = 0
      · rw [if_pos ec]
        refine fin k1 ?_ ⟨fun q => absurd q (by decide), fun q => absurd q nn⟩ (fun q => absurd ec q)
        unfold pcV
        rw [if_neg nn, if_pos ec]
      · rw [if_neg ec]
        have hcV1 : (c : Int) < V1 f0 7 0 := by
          rw [(fl0 hV1).2]
          exact hc
        obtain ⟨V2, W2, y2, v2, w2, k2, -, -, -⟩ := q_cost (px := z % 12) (py := z / 12) jc (by omega) hcV1 (by omega) (by omega)
        have ey : y2 = yc := by
          rw [wc] at w2
          exact (congrArg Prod.snd w2).symm
        rw [bq, bq, bq, (sc 7 0 (by decide)).trans h7, (sc 8 0 (by decide)).trans h8, (sc 9 0 (by decide)).trans h9, dv_bn2 ((j_cost jc fc9 nf (by omega) hcV1 (by omega) (by omega)).trans v2)]
        refine fin (kj_t k1 k2) ?_ (by rw [ey, ep2]) (fun _ => by rw [ey, ep2])
        unfold pcV
        rw [if_neg nn, if_neg ec, ey, ep2]
    · have ep2 : prW W a c z = -1 := by rw [ep, if_neg (by omega)]
      rw [if_neg e0]
      refine fin k1 ?_ ⟨fun _ => ep2, fun _ => rfl⟩ (fun _ => ep2.symm)
      unfold pcV
      rw [if_pos ep2]
end QVL
section QVM
variable {C C' : Int → Int → Prop} {S : Nat → Prop} {w h : Int} {n c d : Nat} {sd : Nat → Int} {pr pr' : Nat → Int → Int} {ag ag' : Nat → Int → Prop} {φ : Nat → Int → Int}
/-- prices and what was seen are the same -/
theorem fbC_r (w12 : w ≤ 12) (h12 : h ≤ 12) (f : ¬ ful C w h) : 0 ≤ fbC C w h ∧ fbC C w h < 144 := by
  obtain ⟨r, k⟩ := fb1_ex (C := C) (w := w) (h := h) w12
  rw [fbC_is w12 k]
  rcases k with ⟨rfl, k1⟩ | ⟨px, py, rfl, ⟨x0, x1⟩, ⟨y0, y1⟩, -⟩
  · exact absurd k1 f
  · omega
theorem okc_p (w12 : w ≤ 12) (h12 : h ≤ 12) (hp : ∀ z, 0 ≤ z → z < 144 → pr c z = pr' c z ∧ (ag c z ↔ ag' c z)) (f : ¬ ful C w h) : okc sd pr ag w h C S c ↔ okc sd pr' ag' w h C S c := by
  obtain ⟨r0, r1⟩ := fbC_r w12 h12 f
  obtain ⟨e1, e2⟩ := hp _ r0 r1
  unfold okc
  rw [e1, e2]
theorem sN_p (w12 : w ≤ 12) (h12 : h ≤ 12) (hp : ∀ c z, c < n → 0 ≤ z → z < 144 → pr c z = pr' c z ∧ (ag c z ↔ ag' c z)) : sN sd pr ag w h n d C S = sN sd pr' ag' w h n d C S := by
  induction d generalizing C S with
  | zero => rfl
  | succ d ih =>
    by_cases f : ful C w h
    · rw [sN_f f, sN_f f]
    · rw [sN_s f, sN_s f]
      refine qs_c (fun c hc => ?_)
      rw [ip_c (okc_p w12 h12 (fun z => hp c z hc) f), ih]
theorem sL_p (w12 : w ≤ 12) (h12 : h ≤ 12) (hp : ∀ c z, c < n → 0 ≤ z → z < 144 → pr c z = pr' c z ∧ (ag c z ↔ ag' c z)) : sL sd pr ag w h n d C S = sL sd pr' ag' w h n d C S := by
  induction d generalizing C S with
  | zero => rfl
  | succ d ih =>
    by_cases f : ful C w h
    · rw [sL_f f, sL_f f]
    · rw [sL_s f, sL_s f]
      obtain ⟨r0, r1⟩ := fbC_r w12 h12 f
      refine foC_c (fun c t hc => ?_)
      have k := okc_p (C := C) (S := S) (sd := sd) w12 h12 (fun z => hp c z hc) f
      by_cases g : okc sd pr ag w h C S c
      · rw [if_pos g, if_pos (k.mp g), ih, (hp c _ hc r0 r1).1]
      · rw [if_neg g, if_neg (fun q => g (k.mpr q))]
theorem sF_p (w12 : w ≤ 12) (h12 : h ≤ 12) (hp : ∀ c z, c < n → 0 ≤ z → z < 144 → pr c z = pr' c z ∧ (ag c z ↔ ag' c z)) : sF sd pr ag w h n d C S = sF sd pr' ag' w h n d C S := by
  induction d generalizing C S with
  | zero => rfl
  | succ d ih =>
    by_cases f : ful C w h
    · rw [sF_f f, sF_f f]
    · rw [sF_s f, sF_s f]
      refine foS_c (fun c hc => ?_)
      have k := okc_p (C := C) (S := S) (sd := sd) w12 h12 (fun z => hp c z hc) f
      by_cases g : okc sd pr ag w h C S c
      · rw [if_pos g, if_pos (k.mp g), ih]
      · rw [if_neg g, if_neg (fun q => g (k.mpr q))]
theorem ct_0 {x : Int} : ct 0 x = 0 := ct_e (by decide) (fun m _ => by rw [lb_0]; exact (Nat.zero_testBit m).symm)
/-- what is bare: the hall's area less the carpets' -/
theorem b_bare (hk : kgf φ) : φ 8 0 * φ 9 0 - qs (sqf φ) (φ 7 0).toNat = blc (cvd φ (φ 7 0)) (φ 8 0) (φ 9 0) := by
  have w12 := hk.1.2.1
  have h12 := hk.1.2.2.1
  have k7 := hk.1.1
  have hA := boxA (l := 0) (r := φ 8 0) (b := 0) (t := φ 9 0) (by decide) w12.1 w12.2 (by decide) h12.1 h12.2
  rw [Int.sub_zero, Int.sub_zero] at hA
  have h2 : qs (fun i => qs (fun x => qs (fun y => ip (cov φ (i : Int) (x : Int) (y : Int))) 12) 12) (φ 7 0).toNat = qs (fun x => qs (fun y => qs (fun i => ip (cov φ (i : Int) (x : Int) (y : Int))) (φ 7 0).toNat) 12) 12 := Eq.trans (qs_sw (g := fun i x => qs (fun y => ip (cov φ (i : Int) (x : Int) (y : Int))) 12)) (qs_c (fun x _ => qs_sw (g := fun i y => ip (cov φ (i : Int) (x : Int) (y : Int)))))
  have h3 : ∀ x y : Nat, qs (fun i => ip (cov φ (i : Int) (x : Int) (y : Int))) (φ 7 0).toNat = ip (cvd φ (φ 7 0) (x : Int) (y : Int)) := fun x y => by
    refine (qs_one (P := fun i => cov φ (i : Int) (x : Int) (y : Int)) (fun i j hi hj p q => ?_)).trans (ip_c ⟨fun ⟨i, hi, hc⟩ => ⟨(i : Int), by omega, by omega, hc⟩, fun ⟨c, c0, c1, hc⟩ => ⟨c.toNat, by omega, by rw [show ((c.toNat : Nat) : Int) = c by omega]; exact hc⟩⟩)
    have := hk.2.1 (i : Int) (j : Int) x y (by omega) (by omega) (by omega) (by omega) p q
    omega
  have e5 : qs (fun x => qs (fun y => ip (cvd φ (φ 7 0) (x : Int) (y : Int))) 12) 12 = qs (sqf φ) (φ 7 0).toNat := by
    refine (qs_c (fun x _ => qs_c (fun y _ => (h3 x y).symm))).trans (h2.symm.trans (qs_c (fun i hi => ?_)))
    by_cases l : φ 3 (i : Int) = -1
    · unfold sqf
      rw [if_pos l]
      exact (qs_c (fun x _ => (qs_c (fun y _ => ip_0 (fun q => q.1 l))).trans qs_z0)).trans qs_z0
    · unfold sqf
      rw [if_neg l]
      have a1 := hk.1.2.2.2 (i : Int) (by omega) (by omega)
      have a2 := hk.2.2.2.1 (i : Int) (by omega) (by omega) l
      have a3 := a1.2.resolve_left l
      exact sq_cov l a3.1 a3.2.2.1 a1.1.1 (by omega) (by omega)
  have e1 : qs (fun x => qs (fun y => ip ((0 ≤ (x : Int) ∧ (x : Int) < φ 8 0) ∧ (0 ≤ (y : Int) ∧ (y : Int) < φ 9 0))) 12) 12 = blc (cvd φ (φ 7 0)) (φ 8 0) (φ 9 0) + qs (fun x => qs (fun y => ip (cvd φ (φ 7 0) (x : Int) (y : Int))) 12) 12 := by
    unfold blc
    rw [← qs_ad]
    refine qs_c (fun x hx => ?_)
    rw [← qs_ad]
    refine qs_c (fun y hy => ?_)
    by_cases g : cvd φ (φ 7 0) (x : Int) (y : Int)
    · have hb : (0 ≤ (x : Int) ∧ (x : Int) < φ 8 0) ∧ (0 ≤ (y : Int) ∧ (y : Int) < φ 9 0) := by
        obtain ⟨c, c0, c1, l, q1, q2, q3, q4⟩ := id g
        have a2 := hk.2.2.2.1 c c0 c1 l
        omega
      rw [ip_1 hb, ip_1 g, ip_0 (fun q => q.2 g)]
      rfl
    · rw [ip_0 g, Int.add_zero]
      exact ip_c ⟨fun q => ⟨⟨q.1.2, q.2.2⟩, g⟩, fun q => ⟨⟨by omega, q.1.1⟩, by omega, q.1.2⟩⟩
  rw [e1, e5] at hA
  omega
/-- all fills of a floor, what the cheapest costs, the first -/
noncomputable def rN (φ : Nat → Int → Int) (pr : Nat → Int → Int) (ag : Nat → Int → Prop) : Int := sN (fun c => φ 0 (c : Int)) pr ag (φ 8 0) (φ 9 0) (φ 7 0).toNat 9 (cvd φ (φ 7 0)) (fun c => φ 3 (c : Int) = -1 ∧ 0 < φ 2 (c : Int))
noncomputable def rL (φ : Nat → Int → Int) (pr : Nat → Int → Int) (ag : Nat → Int → Prop) : Int := sL (fun c => φ 0 (c : Int)) pr ag (φ 8 0) (φ 9 0) (φ 7 0).toNat 9 (cvd φ (φ 7 0)) (fun c => φ 3 (c : Int) = -1 ∧ 0 < φ 2 (c : Int))
noncomputable def rF (φ : Nat → Int → Int) (pr : Nat → Int → Int) (ag : Nat → Int → Prop) : Option (List Nat) := sF (fun c => φ 0 (c : Int)) pr ag (φ 8 0) (φ 9 0) (φ 7 0).toNat 9 (cvd φ (φ 7 0)) (fun c => φ 3 (c : Int) = -1 ∧ 0 < φ 2 (c : Int))
theorem rN_p (hk : fb φ) (hp : ∀ c z, c < (φ 7 0).toNat → 0 ≤ z → z < 144 → pr c z = pr' c z ∧ (ag c z ↔ ag' c z)) : rN φ pr ag = rN φ pr' ag' ∧ rL φ pr ag = rL φ pr' ag' ∧ rF φ pr ag = rF φ pr' ag' := ⟨sN_p hk.2.1.2 hk.2.2.1.2 hp, sL_p hk.2.1.2 hk.2.2.1.2 hp, sF_p hk.2.1.2 hk.2.2.1.2 hp⟩
theorem rN_b (hk : fb φ) : 0 ≤ rN φ pr ag ∧ rN φ pr ag ≤ 387420489 := by
  have h := sN_b (sd := fun c => φ 0 (c : Int)) (pr := pr) (ag := ag) (w := φ 8 0) (h := φ 9 0) (n := (φ 7 0).toNat) (d := 9) (C := cvd φ (φ 7 0)) (S := fun c => φ 3 (c : Int) = -1 ∧ 0 < φ 2 (c : Int)) (by have := hk.1; omega)
  exact h
end QVM
section QVN
variable {V V' V2 V3 U W W' : dV} {M : Int → Prop} {sa fl f0 si x y z r t jd rk lx a b p en ch v : Int} {A : Nat → Int} {c m i j : Nat} {pr pc : Nat → Int → Int} {ag : Nat → Int → Prop}
/-- what a search may change besides its own cells: memos, and the reckoner's words -/
def xM (M : Int → Prop) (rk : Int) : Int → Nat → Int → Prop := fun b m z => M b ∨ (b = rk ∧ m ≤ 3 ∧ ¬ (m = 1 ∧ 8 ≤ z))
theorem xM_n (h : ¬ M b) (g : b ≠ rk) : ¬ xM M rk b m z := fun q => q.elim h (fun e => g e.1)
theorem xM_8 (h : ¬ M rk) (hz : 8 ≤ z) : ¬ xM M rk rk 1 z := fun q => q.elim h (fun e => e.2.2 ⟨rfl, hz⟩)
/-- rounds: none was asked later than now -/
def rdB (V : dV) (sa t : Int) : Prop := (0 ≤ V sa 6 0 ∧ V sa 6 0 ≤ t) ∧ ∀ z, V sa 2 z ≤ V sa 6 0
/-- how it stands when a search is ready -/
def pF (sa fl : Int) (V V2 : dV) : Prop := ∀ b m z, ¬ (b = sa ∧ 7 ≤ m ∧ m ≤ 11) → ¬ (b = fl ∧ m = 6) → V2 b m z = V b m z
theorem p_prep (hk : kgf (V fl)) (n : fl ≠ sa) (e : f_X7_prepare V sa fl lx jd = (V', y)) : pF sa fl V V' ∧ (V' sa 7 0 = jd ∧ V' sa 8 0 = fl ∧ V' sa 9 0 = lx ∧ V' sa 10 0 = -1) ∧ V' sa 11 0 = blc (cvk V' fl 0) (V' fl 8 0) (V' fl 9 0) ∧ ∀ px py, 0 ≤ px → px < V fl 8 0 → 0 ≤ py → py < V fl 9 0 → (cvk V' fl 0 px py ↔ cvd (V fl) (V fl 7 0) px py) := by
  unfold f_X7_prepare at e
  rw [bq, bq, bq, bq, bq] at e
  obtain ⟨V4, h4⟩ : ∃ U, dv_u (dv_u (dv_u (dv_u V sa 8 0 fl) sa 9 0 lx) sa 7 0 jd) sa 10 0 (-1) = U := ⟨_, rfl⟩
  rw [h4] at e
  have e8 : V4 sa 8 0 = fl := by rw [← h4, ub_n (fun g => absurd g.2 (by decide)), ub_n (fun g => absurd g.2 (by decide)), ub_n (fun g => absurd g.2 (by decide)), ub_e]
  have e9 : V4 sa 9 0 = lx := by rw [← h4, ub_n (fun g => absurd g.2 (by decide)), ub_n (fun g => absurd g.2 (by decide)), ub_e]
  have e7 : V4 sa 7 0 = jd := by rw [← h4, ub_n (fun g => absurd g.2 (by decide)), ub_e]
  have e10 : V4 sa 10 0 = -1 := by rw [← h4, ub_e]
  rw [e8] at e
  have F4 : ∀ b m z, ¬ (b = sa ∧ 7 ≤ m ∧ m ≤ 11) → V4 b m z = V b m z := fun b m z q => by
    rw [← h4, ub_n (fun g => q ⟨g.1, by rw [g.2]; decide⟩), ub_n (fun g => q ⟨g.1, by rw [g.2]; decide⟩), ub_n (fun g => q ⟨g.1, by rw [g.2]; decide⟩), ub_n (fun g => q ⟨g.1, by rw [g.2]; decide⟩)]
  have f4 : V4 fl = V fl := by funext m z; exact F4 fl m z (fun g => n g.1)
  obtain ⟨V5, d1, d2, d3⟩ := q_draw (V := V4) (fl := fl) (by rw [f4]; exact hk.1)
  have q5 : fl_eq (V fl) (V5 fl) := fun j c _ h6 => by rw [d2 fl j c (fun g => h6 g.2), f4]
  have k5 := fl_kg q5 hk
  rw [dv_bn2 d1, bq, (d2 sa 8 0 (fun g => n g.1.symm)).trans e8, dv_bn2 (q_bareCells k5.1), bq] at e
  have eV : dv_u V5 sa 11 0 (V5 fl 8 0 * V5 fl 9 0 - qs (sqf (V5 fl)) (V5 fl 7 0).toNat) = V' := congrArg Prod.fst e
  have F5 : ∀ b m z, ¬ (b = sa ∧ m = 11) → V' b m z = V5 b m z := fun b m z q => by
    rw [← eV]
    exact ub_n q
  have f5 : ∀ m z, V' fl m z = V5 fl m z := fun m z => F5 fl m z (fun g => n g.1)
  have e11 : V' sa 11 0 = V5 fl 8 0 * V5 fl 9 0 - qs (sqf (V5 fl)) (V5 fl 7 0).toNat := by
    rw [← eV]
    exact ub_e
  have S5 : ∀ m, m ≠ 11 → V' sa m 0 = V4 sa m 0 := fun m hm => (F5 sa m 0 (fun g => hm g.2)).trans (d2 sa m 0 (fun g => n g.1.symm))
  have w12 := hk.1.2.1
  have h12 := hk.1.2.2.1
  have cc : ∀ px py, cvd (V5 fl) (V5 fl 7 0) px py ↔ cvd (V fl) (V fl 7 0) px py := fun px py => by
    unfold cvd
    rw [← q5 7 0 (by decide) (by decide)]
    exact ⟨fun ⟨c, c0, c1, k⟩ => ⟨c, c0, c1, (cov_eq q5).mp k⟩, fun ⟨c, c0, c1, k⟩ => ⟨c, c0, c1, (cov_eq q5).mpr k⟩⟩
  have cv : ∀ px py, 0 ≤ px → px < V fl 8 0 → 0 ≤ py → py < V fl 9 0 → (cvk V' fl 0 px py ↔ cvd (V fl) (V fl 7 0) px py) := fun px py x0 x1 y0 y1 => by
    have k1 := d3 py y0 (by omega) px.toNat (by omega)
    rw [show ((px.toNat : Nat) : Int) = px by omega, f4] at k1
    unfold cvk
    rw [f5, ct_0]
    exact ⟨fun g => g.elim k1.mp (fun q => absurd q (by omega)), fun g => Or.inl (k1.mpr g)⟩
  refine ⟨fun b m z q1 q2 => ?_, ⟨(S5 7 (by decide)).trans e7, (S5 8 (by decide)).trans e8, (S5 9 (by decide)).trans e9, (S5 10 (by decide)).trans e10⟩, ?_, cv⟩
  · rw [F5 b m z (fun g => q1 ⟨g.1, by rw [g.2]; decide⟩), d2 b m z q2, F4 b m z q1]
  · rw [e11, b_bare k5, f5 8 0, f5 9 0, ← q5 8 0 (by decide) (by decide), ← q5 9 0 (by decide) (by decide)]
    exact blc_c (fun px py a0 a1 b0 b1 => (cc px py).trans (cv px py a0 a1 b0 b1).symm)
/-- a search that is ready, and a round of it -/
theorem p_core (hF : pF sa fl V V2) (e7 : V2 sa 7 0 = jd) (e8 : V2 sa 8 0 = fl) (e9 : V2 sa 9 0 = lx) (e10 : V2 sa 10 0 = si) (hk : kgf (V fl)) (hJ : jd_ok V W jd rk f0 lx a) (hs : fsm V fl f0) (nf : fl ≠ rk) (na : jd ≠ sa ∧ (fl ≠ sa ∧ f0 ≠ sa) ∧ lx ≠ sa ∧ sa ≠ rk) (nl : lx ≠ fl) (nM : ¬ M sa ∧ ¬ M jd ∧ (¬ M fl ∧ ¬ M f0) ∧ ¬ M lx ∧ ¬ M rk) (hr : rdB V sa t) (ht : t < 2147483647) (hsi : (si ≠ sa ∧ si ≠ rk ∧ ¬ M si) ∧ V si 7 0 ≤ 6 ∧ ∀ i, 0 ≤ i → i < V si 7 0 → (-2147483648 ≤ V si 2 i ∧ V si 2 i ≤ 2147483647) ∧ (-2147483648 ≤ V si 3 i ∧ V si 3 i ≤ 2147483647)) (hB : sB sa ch en (xM M rk) V2 U) : sS U sa fl (xM M rk) si (V fl 7 0).toNat (prW W a) (fun c z => pcV ch (prW W a c z)) ∧ pC sa (fun c z => pcV ch (prW W a c z)) U U := by
  obtain ⟨b1, b2, b3, b4⟩ := hB
  obtain ⟨m1, m2, ⟨m3, m3'⟩, m4, m5⟩ := nM
  obtain ⟨n1, ⟨n2, n2'⟩, n3, n4⟩ := na
  have F : ∀ b m z, b ≠ sa → ¬ xM M rk b m z → ¬ (b = fl ∧ m = 6) → U b m z = V b m z := fun b m z q1 q2 q3 => (b1 b m z (fun g => q1 g.1) q2).trans (hF b m z (fun g => q1 g.1) q3)
  have S : ∀ m z, ¬ (m = 5 ∨ m = 6 ∨ m = 12 ∨ m = 13) → U sa m z = V2 sa m z := fun m z q => b1 sa m z (fun g => q g.2) (xM_n m1 n4)
  have Ff : ∀ m z, m ≠ 6 → U fl m z = V fl m z := fun m z q => F fl m z n2 (xM_n m3 nf) (fun g => q g.2)
  have F0 : ∀ m z, m ≠ 6 → U f0 m z = V f0 m z := fun m z q => F f0 m z n2' (xM_n m3' hJ.2.2.1) (fun g => q g.2)
  have Fi : ∀ m z, m ≠ 6 → U si m z = V si m z := fun m z q => F si m z hsi.1.1 (xM_n hsi.1.2.2 hsi.1.2.1) (fun g => q g.2)
  have hJU : jd_ok U W jd rk f0 lx a := jd_fr hJ (F jd 0 0 n1 (xM_n m2 hJ.2.1) (fun g => absurd g.2 (by decide))) (fun m z => F lx m z n3 (xM_n m4 hJ.2.2.2.1) (fun g => nl g.1)) F0 (fun z hz => F rk 1 z (Ne.symm n4) (xM_8 m5 hz) (fun g => absurd g.2 (by decide)))
  have hsU : fsm U fl f0 := ⟨fun c c0 c9 => by
    rw [Ff 0 c (by decide), Ff 1 c (by decide), Ff 2 c (by decide), F0 0 c (by decide), F0 1 c (by decide), F0 2 c (by decide)]
    exact hs.1 c c0 c9, by rw [Ff 5 0 (by decide), F0 5 0 (by decide)]; exact hs.2.1, by rw [Ff 5 2 (by decide), F0 5 2 (by decide)]; exact hs.2.2.1, by rw [Ff 7 0 (by decide), F0 7 0 (by decide)]; exact hs.2.2.2⟩
  have kU : kgf (U fl) := fl_kg (fun j c _ h6 => (Ff j c h6).symm) hk
  have u7 : U fl 7 0 = V fl 7 0 := Ff 7 0 (by decide)
  have u70 := hsU.2.2.2
  have k7 := hk.1.1
  have u12 : U sa 12 0 = ch := b2
  have v6 := hr.1
  have u6 : U sa 6 0 = V sa 6 0 + 1 := by
    rw [b4, hF sa 6 0 (fun g => absurd g.2.1 (by decide)) (fun g => n2 g.1.symm)]
    exact dv_add_ok (by omega) (by omega) (by omega) (by omega) (by decide) (by decide)
  have u2 : ∀ z, U sa 2 z = V sa 2 z := fun z => (S 2 z (by decide)).trans (hF sa 2 z (fun g => absurd g.2.1 (by decide)) (fun g => n2 g.1.symm))
  refine ⟨⟨⟨(S 8 0 (by decide)).trans e8, (S 10 0 (by decide)).trans e10, by rw [u7]; omega⟩, kU.1, fun c c0 c1 => (kU.2.2.1 c c0 (by rw [u7]; omega)).1, ⟨by rw [Fi 7 0 (by decide)]; exact hsi.2.1, fun i i0 i1 => ?_⟩, ⟨fun m z => xM_n m1 n4, ⟨n2, fun m z => xM_n m3 nf⟩, hsi.1.1, fun m z => xM_n hsi.1.2.2 hsi.1.2.1⟩, ⟨by omega, kU.1.2.1, kU.1.2.2.1, fun c hc => ⟨(kU.2.2.1 c (by omega) (by omega)).1, (kU.1.2.2.2 c (by omega) (by omega)).1.2⟩, fun c z hc z0 z1 => (prW_b hJU (by omega) z0 z1).1⟩, fun V1 hV hP c z hc z0 z1 => q_priceAt hJU hsU nf ((S 7 0 (by decide)).trans e7) ((S 8 0 (by decide)).trans e8) ((S 9 0 (by decide)).trans e9) ⟨fun m z => xM_n m1 n4, fun m z => xM_n m2 hJ.2.1, ⟨fun m z => xM_n m3 nf, fun m z => xM_n m3' hJ.2.2.1⟩, fun m z => xM_n m4 hJ.2.2.2.1, fun z hz => xM_8 m5 hz⟩ ⟨n1, ⟨n2, n2'⟩, n3, n4⟩ (fun m z q1 q2 => Or.inr ⟨rfl, q1, q2⟩) (fun c z => by rw [u12]) hV hP (by omega) (by omega) z0 z1⟩, fun c z c9 z0 z1 g => ?_, fun z => ?_⟩
  · rw [Fi 7 0 (by decide)] at i1
    rw [Fi 2 i (by decide), Fi 3 i (by decide)]
    exact hsi.2.2 i i0 i1
  · have := hr.2 (144 * (c : Int) + z)
    rw [u2, u6] at g
    omega
  · have := hr.2 z
    rw [u2, u6]
    omega
/-- the search has its answer -/
theorem p_ans (hF : pF sa fl V V2) (hk : kgf (V fl)) (nf : fl ≠ rk ∧ fl ≠ sa ∧ ¬ M fl) (hcv : ∀ px py, 0 ≤ px → px < V fl 8 0 → 0 ≤ py → py < V fl 9 0 → (cvk V2 fl 0 px py ↔ cvd (V fl) (V fl 7 0) px py)) (hag : ∀ c z, c < (V fl 7 0).toNat → 0 ≤ z → z < 144 → (agS U si (V fl 0 (c : Int)) (z % 12) (z / 12) ↔ ag c z)) (hB : sB sa ch en (xM M rk) V2 U) (h : sNd ch en (sNk U fl si (V fl 7 0).toNat pr 9 0) (sLk U fl si (V fl 7 0).toNat pr 9 0) r) : sNd ch en (rN (V fl) pr ag) (rL (V fl) pr ag) r := by
  have F2 : ∀ m z, U fl m z = V2 fl m z := fun m z => hB.1 fl m z (fun g => nf.2.1 g.1) (xM_n nf.2.2 nf.1)
  have Ff : ∀ m z, m ≠ 6 → U fl m z = V fl m z := fun m z q => (F2 m z).trans (hF fl m z (fun g => nf.2.1 g.1) (fun g => q g.2))
  have e00 : ∀ z, U fl 0 z = V fl 0 z := fun z => Ff 0 z (by decide)
  have ec : cvk U fl 0 = cvk V2 fl 0 := by
    unfold cvk
    funext px py
    rw [F2]
  have w12 := hk.1.2.1.2
  have h12 := hk.1.2.2.1.2
  have eS : ∀ c, c < (V fl 7 0).toNat → (rdk U fl 0 c ↔ (V fl 3 (c : Int) = -1 ∧ 0 < V fl 2 (c : Int))) := fun c hc => by
    unfold rdk
    rw [Ff 7 0 (by decide), Ff 3 _ (by decide), Ff 2 _ (by decide), lb_0]
    exact ⟨fun g => g.1.2, fun g => ⟨⟨by omega, g⟩, rfl⟩⟩
  have ha : ∀ c z, c < (V fl 7 0).toNat → 0 ≤ z → z < 144 → pr c z = pr c z ∧ ((fun c z => agS U si (V fl 0 ((c : Nat) : Int)) (z % 12) (z / 12)) c z ↔ ag c z) := fun c z hc z0 z1 => ⟨rfl, hag c z hc z0 z1⟩
  have eN : sNk U fl si (V fl 7 0).toNat pr 9 0 = rN (V fl) pr ag := by
    unfold sNk
    simp only [e00]
    rw [Ff 8 0 (by decide), Ff 9 0 (by decide), ec, sN_c w12 hcv eS]
    exact sN_p w12 h12 ha
  have eL : sLk U fl si (V fl 7 0).toNat pr 9 0 = rL (V fl) pr ag := by
    unfold sLk
    simp only [e00]
    rw [Ff 8 0 (by decide), Ff 9 0 (by decide), ec, sL_c w12 hcv eS]
    exact sL_p w12 h12 ha
  rw [eN, eL] at h
  exact h
end QVN
section QVO
variable {C : Int → Int → Prop} {S : Nat → Prop} {w h : Int} {n c d : Nat} {sd : Nat → Int} {pr : Nat → Int → Int} {ag : Nat → Int → Prop}
noncomputable def stL (sd : Nat → Int) (pr : Nat → Int → Int) (ag : Nat → Int → Prop) (w h : Int) (n d : Nat) (C : Int → Int → Prop) (S : Nat → Prop) : Nat → Int → Int := fun c t => @ite Int (okc sd pr ag w h C S c) (Classical.propDecidable _) (mCh t (sL sd pr ag w h n d (nxC sd w h C c) (wo1 S c)) (pr c (fbC C w h))) t
noncomputable def stN (sd : Nat → Int) (pr : Nat → Int → Int) (ag : Nat → Int → Prop) (w h : Int) (n d : Nat) (C : Int → Int → Prop) (S : Nat → Prop) : Nat → Int := fun c => ip (okc sd pr ag w h C S c) * sN sd pr ag w h n d (nxC sd w h C c) (wo1 S c)
theorem mCh_n {t r k : Int} (ht : -1 ≤ t) (hr : -1 ≤ r) (hk : 0 ≤ k) : -1 ≤ mCh t r k ∧ (mCh t r k = -1 ↔ t = -1 ∧ r = -1) := by
  unfold mCh
  by_cases e : r = -1
  · rw [if_pos e]; exact ⟨ht, fun g => ⟨g, e⟩, fun g => g.1⟩
  · rw [if_neg e]
    by_cases e2 : t = -1
    · rw [if_pos e2]; exact ⟨by omega, fun g => by omega, fun g => absurd g.2 e⟩
    · rw [if_neg e2]; exact ⟨by omega, fun g => by omega, fun g => absurd g.1 e2⟩
theorem fo_L (hs : rs n sd pr w h) (f : ¬ ful C w h) (ih : ∀ (C : Int → Int → Prop) (S : Nat → Prop), sL sd pr ag w h n d C S = -1 ↔ sN sd pr ag w h n d C S = 0) (m : Nat) (hm : m ≤ n) : -1 ≤ foC (stL sd pr ag w h n d C S) m (-1) ∧ 0 ≤ qs (stN sd pr ag w h n d C S) m ∧ (foC (stL sd pr ag w h n d C S) m (-1) = -1 ↔ qs (stN sd pr ag w h n d C S) m = 0) := by
  obtain ⟨r0, r1⟩ := fbC_r hs.2.1.2 hs.2.2.1.2 f
  induction m with
  | zero => exact ⟨Int.le_refl _, Int.le_refl _, fun _ => rfl, fun _ => rfl⟩
  | succ m im =>
    obtain ⟨i1, i2, i3⟩ := im (by omega)
    have eT : foC (stL sd pr ag w h n d C S) (m + 1) (-1) = stL sd pr ag w h n d C S m (foC (stL sd pr ag w h n d C S) m (-1)) := rfl
    have eQ : qs (stN sd pr ag w h n d C S) (m + 1) = qs (stN sd pr ag w h n d C S) m + stN sd pr ag w h n d C S m := rfl
    rw [eT, eQ]
    generalize foC (stL sd pr ag w h n d C S) m (-1) = T at i1 i3 ⊢
    generalize qs (stN sd pr ag w h n d C S) m = Q at i2 i3 ⊢
    by_cases g : okc sd pr ag w h C S m
    · have e1 : stL sd pr ag w h n d C S m T = mCh T (sL sd pr ag w h n d (nxC sd w h C m) (wo1 S m)) (pr m (fbC C w h)) := if_pos g
      have e2 : stN sd pr ag w h n d C S m = sN sd pr ag w h n d (nxC sd w h C m) (wo1 S m) := by
        unfold stN
        rw [ip_1 g, Int.one_mul]
      have k1 := hs.2.2.2.2 m (fbC C w h) (by omega) r0 r1
      have k2 : 0 ≤ pr m (fbC C w h) := by have := g.2.1; omega
      have k3 := mCh_n (t := T) i1 (sL_b hs (ag := ag) (d := d) (C := nxC sd w h C m) (S := wo1 S m)) k2
      have k4 := (sN_b (sd := sd) (pr := pr) (ag := ag) (w := w) (h := h) (d := d) (C := nxC sd w h C m) (S := wo1 S m) hs.1).1
      have k5 := ih (nxC sd w h C m) (wo1 S m)
      rw [e1, e2]
      refine ⟨k3.1, by omega, ?_⟩
      rw [k3.2, i3, k5]
      omega
    · have e1 : stL sd pr ag w h n d C S m T = T := if_neg g
      have e2 : stN sd pr ag w h n d C S m = 0 := by
        unfold stN
        rw [ip_0 g, Int.zero_mul]
      rw [e1, e2, Int.add_zero]
      exact ⟨i1, i2, i3⟩
/-- there is a least cost just if there is a way -/
theorem sL_N (hs : rs n sd pr w h) : sL sd pr ag w h n d C S = -1 ↔ sN sd pr ag w h n d C S = 0 := by
  induction d generalizing C S with
  | zero =>
    by_cases f : ful C w h
    · rw [sL_f f, sN_f f]; exact ⟨fun q => absurd q (by decide), fun q => absurd q (by decide)⟩
    · rw [sL_0 f, sN_0 f]; exact ⟨fun _ => rfl, fun _ => rfl⟩
  | succ d ih =>
    by_cases f : ful C w h
    · rw [sL_f f, sN_f f]; exact ⟨fun q => absurd q (by decide), fun q => absurd q (by decide)⟩
    · rw [sL_s f, sN_s f]
      exact (fo_L (S := S) hs f (fun _ _ => ih) n (Nat.le_refl _)).2.2
end QVO
section QVP
variable {V V' V1 V2 V3 U W W' W1 : dV} {M : Int → Prop} {sa si x y z r t jd rk lx a b p en ch v u : Int} {A : Nat → Int} {c m i j : Nat} {pc : Nat → Int → Int} {ag : Nat → Int → Prop}
/-- the relation, and where the search stands; M: memos -/
def RS (A : Nat → Int) (a sa t : Int) (M : Int → Prop) (V W : dV) : Prop := RR A a V W ∧ (V (A 0) 11 0 = sa ∧ sa ≠ -1 ∧ ∀ i : Nat, i < 38 → A i ≠ sa) ∧ (¬ M sa ∧ ¬ M (-1) ∧ ∀ i : Nat, i < 38 → ¬ M (A i)) ∧ rdB V sa t ∧ (∀ m z, V (-1) m z = 0) ∧ ∀ z, (-2147483648 ≤ V (A 1) 2 z ∧ V (A 1) 2 z ≤ 2147483647) ∧ (-2147483648 ≤ V (A 1) 3 z ∧ V (A 1) 3 z ≤ 2147483647)
theorem RS_m (h : RS A a sa t M V W) (k : t ≤ r) : RS A a sa r M V W := by
  obtain ⟨h1, h2, h3, ⟨⟨h4, h5⟩, h6⟩, h7⟩ := h
  exact ⟨h1, h2, h3, ⟨⟨h4, by omega⟩, h6⟩, h7⟩
theorem law_lx (h : RR A a V W) (hv : f_X8_lawOf V (A 1) p = (lx, ())) : lx = -1 ∨ ∃ i : Nat, (20 ≤ i ∧ i < 38) ∧ lx = A i := by
  obtain ⟨-, ⟨-, -, -, gk⟩, ⟨-, -, ⟨-, l2, -⟩⟩, -⟩ := h
  have l2 : 0 ≤ V (A 1) 5 0 ∧ V (A 1) 5 0 ≤ 6 := l2
  rw [c_lawOf] at hv
  by_cases e : 0 ≤ p ∧ p < V (A 1) 5 0
  · rw [if_pos e] at hv
    have hq := congrArg Prod.fst hv
    dsimp only at hq
    have hx := (gk 0 (by decide)).2 p.toNat (by omega)
    rw [show ((p.toNat : Nat) : Int) = p by omega] at hx
    exact Or.inr ⟨20 + 6 * 0 + p.toNat, by omega, hq.symm.trans hx⟩
  · rw [if_neg e] at hv
    exact Or.inl (congrArg Prod.fst hv).symm
theorem forced_lx (hl : f_X8_forcedLaw V (A 1) = (lx, ())) : f_X8_lawOf V (A 1) (V (A 1) 6 0) = (lx, ()) := by
  unfold f_X8_forcedLaw at hl
  rw [bq, bq2] at hl
  exact Prod.ext (congrArg Prod.fst hl) rfl
/-- a search of the class, of the floor j (the sheet, or the one that is laid) by the law lx, is ready for a round -/
theorem p_face (hR : RS A a sa t M V W) (ht : t < 2147483647) (hJ : jd_ok V W' (A 13) (A 14) (A 4) lx a) (hlx : lx = -1 ∨ ∃ i : Nat, (20 ≤ i ∧ i < 38) ∧ lx = A i) (hj : j = 4 ∨ j = 8) (hk : kgf (V (A j))) (hs : fsm V (A j) (A 4)) (hF : pF sa (A j) V V2) (he : V2 sa 7 0 = A 13 ∧ V2 sa 8 0 = A j ∧ V2 sa 9 0 = lx ∧ V2 sa 10 0 = si) (hsi : si = -1 ∨ si = A 1) (hB : sB sa ch en (xM M (A 14)) V2 U) : sS U sa (A j) (xM M (A 14)) si (V (A j) 7 0).toNat (prW W' a) (fun c z => pcV ch (prW W' a c z)) ∧ pC sa (fun c z => pcV ch (prW W' a c z)) U U := by
  obtain ⟨h1, ⟨h2, h3, h4⟩, ⟨h5, h6, h7⟩, h8, h9, h10⟩ := hR
  have hA := h1.1
  have j8 : j < 38 := by omega
  have l1 : lx ≠ sa ∧ lx ≠ A j ∧ ¬ M lx := by
    rcases hlx with rfl | ⟨i, ⟨i0, i1⟩, rfl⟩
    · exact ⟨Ne.symm h3, Ne.symm (hA.2 j j8), h6⟩
    · exact ⟨h4 i i1, inj_n hA i1 j8 (by omega), h7 i i1⟩
  have s1 : (si ≠ sa ∧ si ≠ A 14 ∧ ¬ M si) ∧ V si 7 0 ≤ 6 ∧ ∀ i, 0 ≤ i → i < V si 7 0 → (-2147483648 ≤ V si 2 i ∧ V si 2 i ≤ 2147483647) ∧ (-2147483648 ≤ V si 3 i ∧ V si 3 i ≤ 2147483647) := by
    rcases hsi with rfl | rfl
    · exact ⟨⟨Ne.symm h3, Ne.symm (hA.2 14 (by decide)), h6⟩, by rw [h9]; decide, fun i i0 i1 => absurd i1 (by rw [h9]; omega)⟩
    · obtain ⟨-, -, ⟨-, ⟨-, q2, -⟩, -⟩, -⟩ := h1
      exact ⟨⟨h4 1 (by decide), inj_n hA (by decide) (by decide) (by decide), h7 1 (by decide)⟩, q2.2, fun i _ _ => h10 i⟩
  exact p_core hF he.1 he.2.1 he.2.2.1 he.2.2.2 hk hJ hs (inj_n hA j8 (by decide) (by omega)) ⟨h4 13 (by decide), ⟨h4 j j8, h4 4 (by decide)⟩, l1.1, Ne.symm (h4 14 (by decide))⟩ l1.2.1 ⟨h5, h7 13 (by decide), ⟨h7 j j8, h7 4 (by decide)⟩, l1.2.2, h7 14 (by decide)⟩ h8 ht s1 hB
/-- behind a round all stands as it did -/
theorem p_done (hR : RS A a sa t M V W) (ht : t < 2147483647) (hj : j = 4 ∨ j = 8) (hF : pF sa (A j) V V2) (hB : sB sa ch en (xM M (A 14)) V2 U) (hV : sV sa (xM M (A 14)) U V3 ∧ pC sa pc U V3) : RS A a sa (t + 1) M V3 W ∧ ∀ b m z, ¬ (b = sa) → ¬ xM M (A 14) b m z → ¬ (b = A j ∧ m = 6) → V3 b m z = V b m z := by
  obtain ⟨h1, ⟨h2, h3, h4⟩, ⟨h5, h6, h7⟩, h8, h9, h10⟩ := hR
  have hA := h1.1
  have j8 : j < 38 := by omega
  have F : ∀ b m z, ¬ (b = sa) → ¬ xM M (A 14) b m z → ¬ (b = A j ∧ m = 6) → V3 b m z = V b m z := fun b m z q1 q2 q3 => ((hV.1 b m z (fun g => g.elim (fun q => q1 q.1) q2)).trans (hB.1 b m z (fun g => q1 g.1) q2)).trans (hF b m z (fun g => q1 g.1) q3)
  have FA : ∀ (i m : Nat) (z : Int), i < 38 → i ≠ 14 → ¬ (i = j ∧ m = 6) → V3 (A i) m z = V (A i) m z := fun i m z hi h14 q => F (A i) m z (h4 i hi) (xM_n (h7 i hi) (inj_n hA hi (by decide) h14)) (fun g => q ⟨hA.1 i j hi j8 g.1, g.2⟩)
  have n14 : sa ≠ A 14 := Ne.symm (h4 14 (by decide))
  have v6 := h8.1
  have r6 : U sa 6 0 = V sa 6 0 + 1 := by
    rw [hB.2.2.2, hF sa 6 0 (fun g => absurd g.2.1 (by decide)) (fun g => h4 j j8 g.1.symm)]
    exact dv_add_ok (by omega) (by omega) (by omega) (by omega) (by decide) (by decide)
  have V6 : V3 sa 6 0 = U sa 6 0 := hV.1 sa 6 0 (fun g => g.elim (fun q => absurd q.2 (by decide)) (xM_n h5 n14))
  have W14 : ∀ z, 8 ≤ z → V3 (A 14) 1 z = V (A 14) 1 z := fun z hz => F (A 14) 1 z (h4 14 (by decide)) (xM_8 (h7 14 (by decide)) hz) (fun g => absurd g.2 (by decide))
  obtain ⟨-, -, -, -, -, -, -, -, -, -, -, hw⟩ := id h1
  have hRR : RR A a V3 W := RR_cs h1 (fun i m z hi hm hL => FA i m z hi (fun e => by subst e; cases hL) (fun e => by
    rw [e.1, e.2] at hL
    rcases hj with rfl | rfl <;> cases hL)) (fun k k0 k1 => by rw [W14 k k0]; exact hw k k0 k1)
  refine ⟨⟨hRR, ⟨(FA 0 11 0 (by decide) (by decide) (fun g => by omega)).trans h2, h3, h4⟩, ⟨h5, h6, h7⟩, ⟨⟨by rw [V6, r6]; omega, by rw [V6, r6]; omega⟩, fun z => by rw [V6]; exact hV.2.2 z⟩, fun m z => ?_, fun z => ?_⟩, F⟩
  · exact (F (-1) m z (Ne.symm h3) (xM_n h6 (Ne.symm (hA.2 14 (by decide)))) (fun g => hA.2 j j8 g.1.symm)).trans (h9 m z)
  · rw [FA 1 2 z (by decide) (by decide) (fun g => by omega), FA 1 3 z (by decide) (by decide) (fun g => by omega)]
    exact h10 z
/-- prepare, and then a round -/
theorem p_all (hR : RS A a sa t M V W) (ht : t < 2147483647) (hJ : jd_ok V W' (A 13) (A 14) (A 4) lx a) (hlx : lx = -1 ∨ ∃ i : Nat, (20 ≤ i ∧ i < 38) ∧ lx = A i) (hj : j = 4 ∨ j = 8) (hk : kgf (V (A j))) (hs : fsm V (A j) (A 4)) (hp : f_X7_prepare V sa (A j) lx (A 13) = (V2, y)) : V2 sa 11 0 = blc (cvk V2 (A j) 0) (V2 (A j) 8 0) (V2 (A j) 9 0) ∧ (∀ ch en U, sB sa ch en (xM M (A 14)) V2 U → sS U sa (A j) (xM M (A 14)) (-1) (V (A j) 7 0).toNat (prW W' a) (fun c z => pcV ch (prW W' a c z)) ∧ pC sa (fun c z => pcV ch (prW W' a c z)) U U) ∧ ∀ ch en U V3 r, sB sa ch en (xM M (A 14)) V2 U → sV sa (xM M (A 14)) U V3 ∧ pC sa (fun c z => pcV ch (prW W' a c z)) U V3 → sNd ch en (sNk U (A j) (-1) (V (A j) 7 0).toNat (prW W' a) 9 0) (sLk U (A j) (-1) (V (A j) 7 0).toNat (prW W' a) 9 0) r → RS A a sa (t + 1) M V3 W ∧ (∀ b m z, ¬ (b = sa) → ¬ xM M (A 14) b m z → ¬ (b = A j ∧ m = 6) → V3 b m z = V b m z) ∧ sNd ch en (rN (V (A j)) (prW W' a) noag) (rL (V (A j)) (prW W' a) noag) r := by
  obtain ⟨h1, ⟨h2, h3, h4⟩, ⟨h5, h6, h7⟩, -⟩ := id hR
  have hA := h1.1
  have j8 : j < 38 := by omega
  obtain ⟨k1, k2, k3, k4⟩ := p_prep hk (h4 j j8) hp
  refine ⟨k3, fun ch en U hB => p_face hR ht hJ hlx hj hk hs k1 k2 (Or.inl rfl) hB, fun ch en U V3 r hB hV hN => ?_⟩
  obtain ⟨d1, d2⟩ := p_done hR ht hj k1 hB hV
  exact ⟨d1, d2, p_ans k1 hk ⟨inj_n hA j8 (by decide) (by omega), h4 j j8, h7 j j8⟩ k4 (fun c z _ _ _ => ⟨fun _ => trivial, fun _ => Or.inl rfl⟩) hB hN⟩
theorem fsm_4 : fsm V (A 4) (A 4) := fsm_r
/-- prices hang on the class's state alone -/
theorem RR_pr (h : RR A a V W) (h1 : RR A a V W1) : ∀ (c : Nat) (z : Int), c < (V (A 4) 7 0).toNat → 0 ≤ z → z < 144 → prW W a c z = prW W1 a c z := fun c z hc z0 z1 => by
  obtain ⟨lx, hl, hj⟩ := JX_jd (RR_JX h)
  obtain ⟨-, hj1⟩ := JX_lx (RR_JX h1) hl
  exact (prW_b hj (by omega) z0 z1).2.symm.trans (prW_b hj1 (by omega) z0 z1).2
theorem RR_rN (h : RR A a V W) (h1 : RR A a V W1) : rN (V (A 4)) (prW W a) ag = rN (V (A 4)) (prW W1 a) ag ∧ rL (V (A 4)) (prW W a) ag = rL (V (A 4)) (prW W1 a) ag ∧ rF (V (A 4)) (prW W a) ag = rF (V (A 4)) (prW W1 a) ag := rN_p (RR_n h).1.1 (fun c z hc z0 z1 => ⟨RR_pr h h1 c z hc z0 z1, Iff.rfl⟩)
/-- what the reference finds of all fills -/
theorem M_now (h : RR A a V W) : ∃ W' : dV, f_X12_fillsNow W a 0 = (W', 0) ∧ sf_fr a W W' ∧ W' a 41 0 = rN (V (A 4)) (prW W a) noag ∧ W' a 43 0 = lmn 1000000 0 (rL (V (A 4)) (prW W a) noag) ∧ ∃ T : dV, T a 41 0 = 0 ∧ fsn a T W' 0 (rF (V (A 4)) (prW W a) noag) := by
  obtain ⟨lx, hl, hj⟩ := JX_jd (RR_JX h)
  obtain ⟨-, hj0⟩ := JX_lx (RR_JX h) hl
  obtain ⟨W', e1, e2, e3, e4, T, e5, e6⟩ := m_now h hl
  obtain ⟨p1, p2, p3⟩ := rN_p (φ := V (A 4)) (ag := noag) (ag' := noag) (pr := prV V (A 13) (A 4) lx) (pr' := prW W a) (RR_n h).1.1 (fun c z hc z0 z1 => ⟨(prW_b hj0 (by omega) z0 z1).2, Iff.rfl⟩)
  unfold rN at p1
  unfold rL at p2
  unfold rF at p3
  rw [p1] at e3
  rw [p2] at e4
  rw [p3] at e6
  exact ⟨W', e1, e2, e3, e4, T, e5, e6⟩
theorem rs_4 (h : RR A a V W) : rs (V (A 4) 7 0).toNat (fun c => V (A 4) 0 (c : Int)) (prW W a) (V (A 4) 8 0) (V (A 4) 9 0) := by
  obtain ⟨lx, -, hj⟩ := JX_jd (RR_JX h)
  have kk := (RR_n h).1
  have k7 := kk.1.1
  exact ⟨by omega, kk.1.2.1, kk.1.2.2.1, fun c hc => ⟨(kk.2.2.1 c (by omega) (by omega)).1, (kk.1.2.2.2 c (by omega) (by omega)).1.2⟩, fun c z hc z0 z1 => (prW_b hj (by omega) z0 z1).1⟩
theorem M_ways (h : RR A a V W) : ∃ W' : dV, f_X12_ways W a = (W', rN (V (A 4)) (prW W a) noag) := by
  obtain ⟨W', e1, e2, e3, -⟩ := M_now h
  unfold f_X12_ways
  rw [dv_bn2 e1, bq, e3]
  exact ⟨W', rfl⟩
theorem M_cheapest (h : RR A a V W) : ∃ W' : dV, f_X12_cheapest W a = (W', rL (V (A 4)) (prW W a) noag) := by
  obtain ⟨W', e1, e2, e3, e4, -⟩ := M_now h
  have hs := rs_4 h
  have k1 : rL (V (A 4)) (prW W a) noag = -1 ↔ rN (V (A 4)) (prW W a) noag = 0 := sL_N hs
  have k2 : rL (V (A 4)) (prW W a) noag ≤ 99 * ((9 : Nat) : Int) := sL_ub hs
  have k3 : -1 ≤ rL (V (A 4)) (prW W a) noag := sL_b hs
  unfold f_X12_cheapest
  rw [dv_bn2 e1, bq, e3]
  by_cases e : rN (V (A 4)) (prW W a) noag = 0
  · rw [if_neg (fun g => g e), k1.mpr e]
    exact ⟨W', rfl⟩
  · have k4 : rL (V (A 4)) (prW W a) noag ≠ -1 := fun g => e (k1.mp g)
    rw [if_pos e, bq, e4]
    refine ⟨W', ?_⟩
    unfold lmn
    rw [if_neg k4, show min 1000000 (0 + rL (V (A 4)) (prW W a) noag) = rL (V (A 4)) (prW W a) noag by omega]
theorem M_compare (h : RR A a V W) (e : -1 ≤ p ∧ p < W a 2 71) : ∃ W' : dV, f_X12_compare W a p = (W', rL (V (A 4)) (prW (dv_u W a 2 72 p) a) noag) := by
  have h1 := RR_fc h e
  obtain ⟨U, r1⟩ := M_cheapest h1
  have e4 : dv_u V (A 1) 6 0 p (A 4) = V (A 4) := by
    funext m z
    exact u_b (inj_n h.1 (by decide) (by decide) (by decide))
  rw [e4] at r1
  unfold f_X12_compare
  rw [bq2, q_isLaw]
  dsimp only
  rw [if_pos e, if_pos (by decide), bq, bq, dv_bn2 r1, bq]
  exact ⟨_, rfl⟩
theorem M_compare0 (e : ¬ (-1 ≤ p ∧ p < W a 2 71)) : f_X12_compare W a p = (W, -1) := by
  unfold f_X12_compare
  rw [bq2, q_isLaw]
  dsimp only
  rw [if_neg e, if_neg (fun w => w rfl)]
/-- the ground of judging by another law -/
theorem jd_fc (h : RR A a V W) (e : -1 ≤ p ∧ p < W a 2 71) (hl : f_X8_lawOf V (A 1) p = (lx, ())) : jd_ok V (dv_u W a 2 72 p) (A 13) (A 14) (A 4) lx a := by
  have h1 := RR_fc h e
  have hA := h.1
  have f1 : ∀ {i : Nat}, i < 38 → i ≠ 1 → ∀ m z, dv_u V (A 1) 6 0 p (A i) m z = V (A i) m z := fun hi hn m z => u_b (inj_n hA hi (by decide) hn)
  have hl1 : f_X8_lawOf (dv_u V (A 1) 6 0 p) (A 1) p = (lx, ()) := by
    rw [c_lawOf, u_j (by decide), u_j (by decide), ← c_lawOf]
    exact hl
  have hl2 : f_X8_forcedLaw (dv_u V (A 1) 6 0 p) (A 1) = (lx, ()) := by
    unfold f_X8_forcedLaw
    rw [bq, u_e, dv_bn2 hl1]
  obtain ⟨-, hj⟩ := JX_lx (RR_JX h1) hl2
  have hx := law_lx h hl
  refine jd_fr hj (f1 (by decide) (by decide) 0 0).symm (fun m z => ?_) (fun m z _ => (f1 (by decide) (by decide) m z).symm) (fun z _ => (f1 (by decide) (by decide) 1 z).symm)
  rcases hx with rfl | ⟨i, ⟨i0, i1⟩, rfl⟩
  · exact (u_b (Ne.symm (hA.2 1 (by decide)))).symm
  · exact (f1 i1 (by omega) m z).symm
-- what the class has found, and what the reference then answers
theorem g_ways (h : RR A a V V) (h1 : RR A a V V1) (hr : r = rN (V (A 4)) (prW V a) noag) (e : f_X12_ways V1 a = (V2, u)) : r = u := by
  obtain ⟨W', k⟩ := M_ways h1
  rw [e] at k
  rw [hr, (RR_rN h h1).1]
  exact (congrArg Prod.snd k).symm
theorem g_cheapest (h : RR A a V V) (h1 : RR A a V V1) (hr : r = rL (V (A 4)) (prW V a) noag) (e : f_X12_cheapest V1 a = (V2, u)) : r = u := by
  obtain ⟨W', k⟩ := M_cheapest h1
  rw [e] at k
  rw [hr, (RR_rN h h1).2.1]
  exact (congrArg Prod.snd k).symm
theorem g_compare (h : RR A a V V) (h1 : RR A a V V1) (hr : (-1 ≤ p ∧ p < V a 2 71 → r = rL (V (A 4)) (prW (dv_u V a 2 72 p) a) noag) ∧ (¬ (-1 ≤ p ∧ p < V a 2 71) → r = -1)) (e : f_X12_compare V1 a p = (V2, u)) : r = u := by
  have e71 : ∀ {W : dV}, RR A a V W → V (A 1) 5 0 = W a 2 71 := fun {W} h => by
    obtain ⟨-, -, ⟨-, -, ⟨l1, -⟩⟩, -⟩ := h
    have l1 : V (A 1) 5 0 = W a 2 (0 + 71) := l1
    rw [Int.zero_add] at l1
    exact l1
  have e1 := e71 h
  have e2 := e71 h1
  by_cases g : -1 ≤ p ∧ p < V a 2 71
  · obtain ⟨W', k⟩ := M_compare (p := p) h1 (by omega)
    rw [e] at k
    have k1 : RR A a (dv_u V (A 1) 6 0 p) (dv_u V1 a 2 72 p) := RR_fc h1 (by omega)
    have k2 : RR A a (dv_u V (A 1) 6 0 p) (dv_u V a 2 72 p) := RR_fc h g
    have e4 : dv_u V (A 1) 6 0 p (A 4) = V (A 4) := by
      funext m z
      exact u_b (inj_n h.1 (by decide) (by decide) (by decide))
    have k3 := (RR_rN (ag := noag) k2 k1).2.1
    rw [e4] at k3
    rw [hr.1 g, k3]
    exact (congrArg Prod.snd k).symm
  · rw [M_compare0 (by omega)] at e
    rw [hr.2 g]
    exact congrArg Prod.snd e
end QVP
end
section
section QVR
variable {V V' V0 V1 V2 V3 U W : dV} {X : Int → Nat → Int → Prop} {M : Int → Prop} {A : Nat → Int} {a sa fl si x y z t c cell p s w h k r left lx d : Int} {n m i : Nat} {pr pc : Nat → Int → Int} {φ ψ : Nat → Int → Int}
/-- the tally emptied -/
theorem q_fillT : ∃ V' : dV, f_J7_fill_53178_Stally V sa x = (V', 0) ∧ (∀ b j z, ¬ (b = sa ∧ j = 3) → V' b j z = V b j z) ∧ ∀ z, 0 ≤ z → z < 1296 → V' sa 3 z = x := by
  unfold f_J7_fill_53178_Stally
  rw [bq]
  refine dv_inv (b := f_J7_fill_53178_Stally_5b) (P := fun q => ∃ (W : dV) (j : Int), q = (W, 1296, sa, x, j) ∧ 0 ≤ j ∧ j ≤ 1296 ∧ (∀ b k z, ¬ (b = sa ∧ k = 3) → W b k z = V b k z) ∧ ∀ z, 0 ≤ z → z < j → W sa 3 z = x) (Q := fun q => ∃ V' : dV, q = (V', 0) ∧ (∀ b j z, ¬ (b = sa ∧ j = 3) → V' b j z = V b j z) ∧ ∀ z, 0 ≤ z → z < 1296 → V' sa 3 z = x) (m := fun q => (1296 - q.2.2.2.2).toNat) ?_ _ ⟨V, 0, rfl, by decide, by decide, fun _ _ _ _ => rfl, fun z z0 z1 => absurd z1 (by omega)⟩
  rintro q ⟨W, j, rfl, j0, j1, hf, hz⟩
  rw [f_J7_fill_53178_Stally_5e]
  unfold f_J7_fill_53178_Stally_5c
  by_cases e : 1296 ≤ j
  · rw [if_pos e]
    exact Or.inr ⟨_, rfl, W, rfl, hf, fun z z0 z1 => hz z z0 (by omega)⟩
  · rw [if_neg e, bq, bq]
    refine Or.inl ⟨_, rfl, ⟨_, j + 1, rfl, by omega, by omega, fun b k z g => ?_, fun z z0 z1 => ?_⟩, by dsimp only; omega⟩
    · unfold dv_u
      rw [if_neg (fun q => g ⟨q.1, q.2.1⟩)]
      exact hf b k z g
    · unfold dv_u
      by_cases g : z = j
      · rw [if_pos ⟨rfl, rfl, g⟩]
      · rw [if_neg (fun q => g q.2.2)]
        exact hz z z0 (by omega)
/-- one row of a carpet's cells, tallied -/
theorem q_addR {j : Int} (hf : ∀ b k z, ¬ (b = sa ∧ k = 3) → W b k z = V b k z) : ∃ W' : dV, dv_lp f_X7_addToTally_28b (W, s, sa, c, cell, p, j, 0) = Sum.inl (W', s, sa, c, cell, p, j + 1) ∧ ∀ b k z, ¬ (b = sa ∧ k = 3) → W' b k z = V b k z := by
  refine dv_inv (b := f_X7_addToTally_28b) (P := fun q => ∃ (U : dV) (i : Int), q = (U, s, sa, c, cell, p, j, i) ∧ ∀ b k z, ¬ (b = sa ∧ k = 3) → U b k z = V b k z) (Q := fun q => ∃ W' : dV, q = Sum.inl (W', s, sa, c, cell, p, j + 1) ∧ ∀ b k z, ¬ (b = sa ∧ k = 3) → W' b k z = V b k z) (m := fun q => (s - q.2.2.2.2.2.2.2).toNat) ?_ _ ⟨W, 0, rfl, hf⟩
  rintro q ⟨U, i, rfl, hU⟩
  rw [f_X7_addToTally_28e]
  unfold f_X7_addToTally_28c
  by_cases e : s ≤ i
  · rw [if_pos e, bq]
    exact Or.inr ⟨_, rfl, U, rfl, hU⟩
  · rw [if_neg e, bq, bq, bq, bq, bq, bq, bq, bq, bq]
    refine Or.inl ⟨_, rfl, ⟨_, i + 1, rfl, fun b k z g => ?_⟩, by dsimp only; omega⟩
    rw [ub_n (fun q => g q)]
    exact hU b k z g
theorem q_addF : ∃ V' : dV, f_X7_addToTally V sa c cell p = (V', 0) ∧ ∀ b k z, ¬ (b = sa ∧ k = 3) → V' b k z = V b k z := by
  unfold f_X7_addToTally
  rw [bq, bq]
  generalize V (V sa 8 0) 0 c = s
  refine dv_inv (b := f_X7_addToTally_14b) (P := fun q => ∃ (W : dV) (j : Int), q = (W, s, sa, c, cell, p, j) ∧ ∀ b k z, ¬ (b = sa ∧ k = 3) → W b k z = V b k z) (Q := fun q => ∃ V' : dV, q = (V', 0) ∧ ∀ b k z, ¬ (b = sa ∧ k = 3) → V' b k z = V b k z) (m := fun q => (s - q.2.2.2.2.2.2).toNat) ?_ _ ⟨V, 0, rfl, fun _ _ _ _ => rfl⟩
  rintro q ⟨W, j, rfl, hf⟩
  rw [f_X7_addToTally_14e]
  unfold f_X7_addToTally_14c
  by_cases e : s ≤ j
  · rw [if_pos e]
    exact Or.inr ⟨_, rfl, W, rfl, hf⟩
  rw [if_neg e]
  by_cases e2 : p ≤ 0
  · rw [if_pos e2]
    exact Or.inr ⟨_, rfl, W, rfl, hf⟩
  rw [if_neg e2]
  obtain ⟨W', r1, r2⟩ := q_addR (s := s) (c := c) (cell := cell) (p := p) (j := j) hf
  rw [r1]
  exact Or.inl ⟨_, rfl, ⟨W', j + 1, rfl, r2⟩, by dsimp only; omega⟩
/-- what changes the tally alone -/
theorem s_VT (h : sV sa X V0 V ∧ pC sa pc V0 V) (e : ∀ b k z, ¬ (b = sa ∧ k = 3) → V1 b k z = V b k z) : sV sa X V0 V1 ∧ pC sa pc V0 V1 := by
  have e1 : ∀ z, V1 sa 1 z = V sa 1 z := fun z => e sa 1 z (fun g => absurd g.2 (by decide))
  have e2 : ∀ z, V1 sa 2 z = V sa 2 z := fun z => e sa 2 z (fun g => absurd g.2 (by decide))
  refine ⟨fun b m z q => (e b m z (fun g => q (Or.inl ⟨g.1, Or.inr (Or.inr (Or.inr (Or.inr g.2)))⟩))).trans (h.1 b m z q), fun c z c9 z0 z1 g => ?_, fun z => by rw [e2]; exact h.2.2 z⟩
  rw [e1]
  rw [e2] at g
  exact h.2.1 c z c9 z0 z1 g
theorem s_add (h : sV sa X V0 V ∧ pC sa pc V0 V) (e : f_X7_addToTally V sa c cell p = (V1, y)) : sV sa X V0 V1 ∧ pC sa pc V0 V1 := by
  obtain ⟨V', k1, k2⟩ := q_addF (V := V) (sa := sa) (c := c) (cell := cell) (p := p)
  rw [k1] at e
  obtain ⟨rfl, -⟩ := Prod.mk.inj e
  exact s_VT h k2
theorem s_fillT (h : sV sa X V0 V ∧ pC sa pc V0 V) (e : f_J7_fill_53178_Stally V sa x = (V1, y)) : sV sa X V0 V1 ∧ pC sa pc V0 V1 := by
  obtain ⟨V', k1, k2, -⟩ := q_fillT (V := V) (sa := sa) (x := x)
  rw [k1] at e
  obtain ⟨rfl, -⟩ := Prod.mk.inj e
  exact s_VT h k2
/-- whether a carpet alone fills what is bare -/
theorem s_alone (hS : sS V0 sa fl X si n pr pc) (hV : sV sa X V0 V ∧ pC sa pc V0 V) (hc : (i : Int) < (n : Int)) (hb : V0 sa 11 0 = blc (cvk V0 fl 0) (V0 fl 8 0) (V0 fl 9 0)) (e : f_X7_fillsAlone V sa (i : Int) = (V1, y)) : (sV sa X V0 V1 ∧ pC sa pc V0 V1) ∧ (y = 1 ∨ y = 0) ∧ (y = 1 ↔ ∃ cell, fb1 (cvk V0 fl 0) (V0 fl 8 0) (V0 fl 9 0) cell ∧ cell ≠ -1 ∧ V0 fl 0 (i : Int) * V0 fl 0 (i : Int) = blc (cvk V0 fl 0) (V0 fl 8 0) (V0 fl 9 0) ∧ okc (sSD V0 fl) pr (sAG V0 fl si) (V0 fl 8 0) (V0 fl 9 0) (cvk V0 fl 0) (rdk V0 fl 0) i) := by
  obtain ⟨⟨s1, s2, s3⟩, hb0, hsd, ⟨h7, hv⟩, -, ⟨n9, -⟩, -⟩ := id hS
  have efl : V fl = V0 fl := by funext m z; exact sS_fl hS hV.1 m z
  have esi : V si = V0 si := by funext m z; exact sS_si hS hV.1 m z
  have e8 := (sS_sa hS hV.1 (show ¬ (8 = 1 ∨ 8 = 2 ∨ 8 = 4 ∨ 8 = 5 ∨ 8 = 3) by decide) 0).trans s1
  have e10 := (sS_sa hS hV.1 (show ¬ (10 = 1 ∨ 10 = 2 ∨ 10 = 4 ∨ 10 = 5 ∨ 10 = 3) by decide) 0).trans s2
  have e11 := (sS_sa hS hV.1 (show ¬ (11 = 1 ∨ 11 = 2 ∨ 11 = 4 ∨ 11 = 5 ∨ 11 = 3) by decide) 0).trans hb
  have hK := s_K0 (V := V0) (fl := fl) (left := blc (cvk V0 fl 0) (V0 fl 8 0) (V0 fl 9 0)) rfl
  obtain ⟨cell, k1, k2⟩ := q_first (V := V) (sa := sa) (k := 0) (f := 0) (fl := fl) e8 (by rw [efl]; exact hb0.2.1.2) (by rw [efl]; exact hb0.2.2.1.2) (by decide) (by decide) (fun px py a0 a1 b0 b1 g => absurd g (by omega))
  have k2' : fb1 (cvk V0 fl 0) (V0 fl 8 0) (V0 fl 9 0) cell := by
    rw [sS_cvk hS hV.1, efl] at k2
    exact k2
  unfold f_X7_fillsAlone at e
  rw [dv_bn2 k1, bq, e8, bq, bq, bq, bq, bq, efl, e11] at e
  by_cases g1 : V0 fl 0 (i : Int) * V0 fl 0 (i : Int) ≠ blc (cvk V0 fl 0) (V0 fl 8 0) (V0 fl 9 0)
  · rw [if_pos g1] at e
    obtain ⟨rfl, rfl⟩ := Prod.mk.inj e
    exact ⟨hV, Or.inr rfl, fun q => absurd q (by decide), fun ⟨_, _, _, q, _⟩ => absurd q g1⟩
  rw [if_neg g1] at e
  have g1' : V0 fl 0 (i : Int) * V0 fl 0 (i : Int) = blc (cvk V0 fl 0) (V0 fl 8 0) (V0 fl 9 0) := Classical.byContradiction g1
  have w8 := hb0.2.1
  have w9 := hb0.2.2.1
  have sd1 := hsd (i : Int) (by omega) hc
  have m1 : 1 * 1 ≤ V0 fl 0 (i : Int) * V0 fl 0 (i : Int) := Int.mul_le_mul sd1 sd1 (by decide) (by omega)
  have nc : cell ≠ -1 := fun q => by
    have := (blc_0 w8.2 w9.2).mpr ((fb1_ful k2').mpr q)
    omega
  have hr : 0 ≤ cell ∧ cell < 144 := by
    rcases k2' with ⟨q, -⟩ | ⟨px, py, rfl, ⟨x0, x1⟩, ⟨y0, y1⟩, -⟩
    · exact absurd q nc
    · omega
  have eF : fbC (cvk V0 fl 0) (V0 fl 8 0) (V0 fl 9 0) = cell := fbC_is w8.2 k2'
  have uq : ∀ cell', fb1 (cvk V0 fl 0) (V0 fl 8 0) (V0 fl 9 0) cell' → cell' = cell := fun cell' q => fb1_u q k2'
  obtain ⟨t, t1, t2, t3⟩ := q_fits (V := V) (sa := sa) (k := 0) (fl := fl) (si := si) (c := (i : Int)) (cell := cell) e8 e10 (by rw [efl]; exact hb0) (fun c c0 c1 => by rw [efl] at c1 ⊢; rw [s3] at c1; exact hsd c c0 c1) (by rw [esi]; exact h7) (fun j i0 i1 => by rw [esi] at i1 ⊢; exact hv j i0 i1) (by omega) (by omega) hr.1 hr.2
  have ft : t = 1 ↔ rdk V0 fl 0 i ∧ (cell % 12 + V0 fl 0 (i : Int) ≤ V0 fl 8 0 ∧ cell / 12 + V0 fl 0 (i : Int) ≤ V0 fl 9 0 ∧ fpl (cvk V0 fl 0) (V0 fl 0 (i : Int)) (cell % 12) (cell / 12)) ∧ sAG V0 fl si i cell := by
    rw [t3, sS_cvk hS hV.1, Int.toNat_natCast]
    unfold rdk agS
    rw [efl, esi]
    constructor
    · rintro ⟨a1, a2, a3, a4⟩; exact ⟨⟨a1, a2⟩, a3, a4⟩
    · rintro ⟨⟨a1, a2⟩, a3, a4⟩; exact ⟨a1, a2, a3, a4⟩
  rw [dv_bn2 t1] at e
  by_cases g2 : t = 0
  · rw [if_pos g2] at e
    obtain ⟨rfl, rfl⟩ := Prod.mk.inj e
    refine ⟨hV, Or.inr rfl, fun q => absurd q (by decide), fun ⟨cell', q1, q2, q3, ok⟩ => ?_⟩
    obtain ⟨o1, -, o3, o4⟩ := ok
    rw [eF] at o3 o4
    have := ft.mpr ⟨o1, o3, o4⟩
    omega
  rw [if_neg g2] at e
  have t1' : t = 1 := t2.resolve_right g2
  obtain ⟨V2, p2, hp⟩ : ∃ (V2 : dV) (p2 : Int), f_X7_priceAt V sa (i : Int) cell = (V2, p2) := ⟨_, _, rfl⟩
  obtain ⟨q1, q2, -⟩ := s_pr hS hV (by omega) hr.1 hr.2 hp
  rw [dv_bn2 hp] at e
  by_cases g3 : p2 = -1
  · rw [if_pos g3] at e
    obtain ⟨rfl, rfl⟩ := Prod.mk.inj e
    refine ⟨q1, Or.inr rfl, fun q => absurd q (by decide), fun ⟨cell', c1, c2, c3, ok⟩ => ?_⟩
    have o2 := ok.2.1
    rw [eF] at o2
    exact absurd (q2.mp g3) o2
  · rw [if_neg g3] at e
    obtain ⟨rfl, rfl⟩ := Prod.mk.inj e
    have f := ft.mp t1'
    refine ⟨q1, Or.inl rfl, fun _ => ⟨cell, k2', nc, g1', f.1, ?_, ?_, ?_⟩, fun _ => rfl⟩
    · rw [eF]; exact fun q => g3 (q2.mpr q)
    · rw [eF]; exact f.2.1
    · rw [eF]; exact f.2.2
/-- what was seen, held against the floor -/
def hdO (V : dV) (fl si : Int) : Prop := ∀ i, 0 ≤ i → i < V si 7 0 → V si 2 i < V fl 8 0 ∧ V si 3 i < V fl 9 0 ∧ ∀ c, 0 ≤ c → c < V fl 7 0 → cov (V fl) c (V si 2 i) (V si 3 i) → V fl 0 c = V si 4 i
theorem q_heed (hf : V sa 8 0 = fl) (n1 : fl ≠ sa) (n2 : si ≠ sa) (hk : kgf (V fl)) : ∃ r, f_X7_heed V sa si = (dv_u V sa 10 0 si, r) ∧ (r = 1 ∨ r = 0) ∧ (r = 1 ↔ hdO V fl si) := by
  unfold f_X7_heed
  rw [bq]
  obtain ⟨U, hU⟩ : ∃ U, dv_u V sa 10 0 si = U := ⟨_, rfl⟩
  rw [hU]
  have uf : U fl = V fl := by
    funext m z
    rw [← hU]
    exact ub_n (fun g => n1 g.1)
  have us : U si = V si := by
    funext m z
    rw [← hU]
    exact ub_n (fun g => n2 g.1)
  have u8 : U sa 8 0 = fl := by
    rw [← hU, ub_n (fun g => absurd g.2 (by decide))]
    exact hf
  refine dv_inv (b := f_X7_heed_7b) (P := fun q => ∃ j : Int, q = (U, sa, si, j) ∧ 0 ≤ j ∧ ∀ i, 0 ≤ i → i < j → V si 2 i < V fl 8 0 ∧ V si 3 i < V fl 9 0 ∧ ∀ c, 0 ≤ c → c < V fl 7 0 → cov (V fl) c (V si 2 i) (V si 3 i) → V fl 0 c = V si 4 i) (Q := fun q => ∃ r, q = (U, r) ∧ (r = 1 ∨ r = 0) ∧ (r = 1 ↔ hdO V fl si)) (m := fun q => (V si 7 0 - q.2.2.2).toNat) ?_ _ ⟨0, rfl, by decide, fun i i0 i1 => absurd i1 (by omega)⟩
  rintro q ⟨j, rfl, j0, hj⟩
  rw [f_X7_heed_7e]
  unfold f_X7_heed_7c
  rw [bq, us]
  by_cases e1 : V si 7 0 ≤ j
  · rw [if_pos e1]
    exact Or.inr ⟨_, rfl, 1, rfl, Or.inl rfl, fun _ i i0 i1 => hj i i0 (by omega), fun _ => rfl⟩
  have no : ¬ (V si 2 j < V fl 8 0 ∧ V si 3 j < V fl 9 0 ∧ ∀ c, 0 ≤ c → c < V fl 7 0 → cov (V fl) c (V si 2 j) (V si 3 j) → V fl 0 c = V si 4 j) → ∃ r : Int, ((U, 0) : dR) = (U, r) ∧ (r = 1 ∨ r = 0) ∧ (r = 1 ↔ hdO V fl si) := fun g => ⟨0, rfl, Or.inr rfl, fun q => absurd q (by decide), fun q => absurd (q j j0 (by omega)) g⟩
  have e94 : f_X7_heed_94 U sa si j = Sum.inl (U, sa, si, j + 1) := by
    unfold f_X7_heed_94
    rw [bq]
  have go : (V si 2 j < V fl 8 0 ∧ V si 3 j < V fl 9 0 ∧ ∀ c, 0 ≤ c → c < V fl 7 0 → cov (V fl) c (V si 2 j) (V si 3 j) → V fl 0 c = V si 4 j) → ∃ t, (Sum.inl (U, sa, si, j + 1) : Sum (dV × Int × Int × Int) dR) = Sum.inl t ∧ (∃ j : Int, t = (U, sa, si, j) ∧ 0 ≤ j ∧ ∀ i, 0 ≤ i → i < j → V si 2 i < V fl 8 0 ∧ V si 3 i < V fl 9 0 ∧ ∀ c, 0 ≤ c → c < V fl 7 0 → cov (V fl) c (V si 2 i) (V si 3 i) → V fl 0 c = V si 4 i) ∧ (V si 7 0 - t.2.2.2).toNat < (V si 7 0 - j).toNat := fun g => ⟨_, rfl, ⟨j + 1, rfl, by omega, fun i i0 i1 => by
    by_cases ei : i = j
    · rw [ei]; exact g
    · exact hj i i0 (by omega)⟩, by dsimp only; omega⟩
  rw [if_neg e1, bq, bq, u8, bq, uf]
  by_cases e2 : V fl 8 0 ≤ V si 2 j
  · rw [if_pos e2]
    exact Or.inr ⟨_, rfl, no (fun g => by omega)⟩
  rw [if_neg e2, bq, bq, bq, uf]
  by_cases e3 : V si 3 j < V fl 9 0
  case neg =>
    rw [if_neg e3]
    exact Or.inr ⟨_, rfl, no (fun g => e3 g.2.1)⟩
  obtain ⟨r, r1, r2⟩ := q_carpetOn (V := U) (a := fl) (px := V si 2 j) (py := V si 3 j) (by rw [uf]; exact hk.1)
  rw [uf] at r2
  rw [if_pos e3, bq, bq, bq, dv_bn2 r1]
  by_cases e4 : r = -1
  · rw [if_pos e4, e94]
    refine Or.inl (go ⟨by omega, e3, fun c c0 c1 hc => ?_⟩)
    rcases r2 with ⟨-, k⟩ | ⟨k, -⟩
    · exact absurd hc (k c c0 c1)
    · omega
  obtain ⟨q0, q1, q2⟩ := r2.resolve_left (fun g => e4 g.1)
  rw [if_neg e4, bq, uf, bq, bq]
  by_cases e5 : V fl 0 r = V si 4 j
  · rw [if_pos e5, e94]
    refine Or.inl (go ⟨by omega, e3, fun c c0 c1 hc => ?_⟩)
    have := hk.2.1 c r _ _ c0 c1 q0 q1 hc q2
    rw [this]
    exact e5
  · rw [if_neg e5]
    exact Or.inr ⟨_, rfl, no (fun g => e5 (g.2.2 r q0 q1 q2))⟩
/-- the sheet copied -/
theorem sh_copy (hA : inj A) (hk : kgf (V (A 4))) (e : f_X1_copyFrom V (A 8) (A 4) = (V1, y)) : (∀ b m z, b ≠ A 8 → V1 b m z = V b m z) ∧ kgf (V1 (A 8)) ∧ fsm V1 (A 8) (A 4) ∧ (∀ c, 0 ≤ c → c < 9 → V1 (A 8) 0 c = V (A 4) 0 c ∧ V1 (A 8) 1 c = V (A 4) 1 c ∧ V1 (A 8) 2 c = V (A 4) 2 c ∧ V1 (A 8) 3 c = V (A 4) 3 c ∧ V1 (A 8) 4 c = V (A 4) 4 c) ∧ (V1 (A 8) 5 0 = V (A 4) 5 0 ∧ V1 (A 8) 5 1 = V (A 4) 5 1 ∧ V1 (A 8) 5 2 = V (A 4) 5 2) ∧ V1 (A 8) 7 0 = V (A 4) 7 0 ∧ V1 (A 8) 8 0 = V (A 4) 8 0 ∧ V1 (A 8) 9 0 = V (A 4) 9 0 ∧ V1 (A 8) 10 0 = V (A 4) 10 0 := by
  have n84 : A 8 ≠ A 4 := inj_n hA (by decide) (by decide) (by decide)
  obtain ⟨V', k1, k2, k3, k4, k5, k6, k7, k8⟩ := c_copy (V := V) n84
  rw [k1] at e
  obtain ⟨rfl, -⟩ := Prod.mk.inj e
  have k4f : ∀ m z, V' (A 4) m z = V (A 4) m z := fun m z => k2 (A 4) m z (fun g => n84 g.1.symm)
  refine ⟨fun b m z q => k2 b m z (fun g => q g.1), kg_9 hk k3 k4 k5 k6 k7 k8, ⟨fun c c0 c9 => ?_, ?_, ?_, ?_⟩, k3, k4, k5, k6, k7, k8⟩
  · obtain ⟨a0, a1, a2, -⟩ := k3 c c0 c9
    rw [k4f, k4f, k4f]
    exact ⟨a0, a1, a2⟩
  · rw [k4f]; exact k4.1
  · rw [k4f]; exact k4.2.2
  · rw [k4f]; exact k5
/-- the sheet emptied -/
theorem sh_empty (h7 : 0 ≤ V d 7 0) : ∃ V2 : dV, f_X1_emptyInto V d w h = (V2, 0) ∧ (∀ b m z, ¬ (b = d ∧ (m = 3 ∨ m = 4 ∨ m = 8 ∨ m = 9)) → V2 b m z = V b m z) ∧ (∀ c, 0 ≤ c → c < V d 7 0 → V2 d 3 c = -1 ∧ V2 d 4 c = -1) ∧ V2 d 8 0 = w ∧ V2 d 9 0 = h := by
  unfold f_X1_emptyInto
  refine dv_inv (b := f_X1_emptyInto_2b) (P := fun q => ∃ (U : dV) (j : Int), q = (U, d, w, h, j) ∧ 0 ≤ j ∧ j ≤ V d 7 0 ∧ (∀ b m z, ¬ (b = d ∧ (m = 3 ∨ m = 4 ∨ m = 8 ∨ m = 9)) → U b m z = V b m z) ∧ ∀ c, 0 ≤ c → c < j → U d 3 c = -1 ∧ U d 4 c = -1) (Q := fun q => ∃ V2 : dV, q = (V2, 0) ∧ (∀ b m z, ¬ (b = d ∧ (m = 3 ∨ m = 4 ∨ m = 8 ∨ m = 9)) → V2 b m z = V b m z) ∧ (∀ c, 0 ≤ c → c < V d 7 0 → V2 d 3 c = -1 ∧ V2 d 4 c = -1) ∧ V2 d 8 0 = w ∧ V2 d 9 0 = h) (m := fun q => (V d 7 0 - q.2.2.2.2).toNat) ?_ _ ⟨V, 0, rfl, by decide, h7, fun _ _ _ _ => rfl, fun c c0 c1 => absurd c1 (by omega)⟩
  rintro q ⟨U, j, rfl, j0, j1, hU, hz⟩
  have u7 : U d 7 0 = V d 7 0 := hU d 7 0 (fun g => absurd g.2 (by decide))
  rw [f_X1_emptyInto_2e]
  unfold f_X1_emptyInto_2c
  rw [bq, u7]
  by_cases e : V d 7 0 ≤ j
  · rw [if_pos e, bq, bq]
    refine Or.inr ⟨_, rfl, _, rfl, fun b m z g => ?_, fun c c0 c1 => ?_, ?_, ub_e⟩
    · rw [ub_n (fun q => g ⟨q.1, Or.inr (Or.inr (Or.inr q.2))⟩), ub_n (fun q => g ⟨q.1, Or.inr (Or.inr (Or.inl q.2))⟩)]
      exact hU b m z g
    · rw [ub_n (fun q => absurd q.2 (by decide)), ub_n (fun q => absurd q.2 (by decide)), ub_n (fun q => absurd q.2 (by decide)), ub_n (fun q => absurd q.2 (by decide))]
      exact hz c c0 (by omega)
    · rw [ub_n (fun q => absurd q.2 (by decide)), ub_e]
  · rw [if_neg e, dv_bn2 (c_rollUp (V := U) (fl := d) (c := j) ⟨j0, by rw [u7]; omega⟩), bq]
    refine Or.inl ⟨_, rfl, ⟨_, j + 1, rfl, by omega, by omega, fun b m z g => ?_, fun c c0 c1 => ?_⟩, by dsimp only; omega⟩
    · rw [ub_n (fun q => g ⟨q.1, Or.inr (Or.inl q.2)⟩), ub_n (fun q => g ⟨q.1, Or.inl q.2⟩)]
      exact hU b m z g
    · unfold dv_u
      by_cases g : c = j
      · subst g
        exact ⟨by rw [if_neg (fun q => absurd q.2.1 (by decide)), if_pos ⟨rfl, rfl, rfl⟩], if_pos ⟨rfl, rfl, rfl⟩⟩
      · rw [if_neg (fun q => absurd q.2.1 (by decide)), if_neg (fun q => g q.2.2), if_neg (fun q => g q.2.2), if_neg (fun q => absurd q.2.1 (by decide))]
        exact hz c c0 (by omega)
/-- a floor with nothing laid -/
theorem kg_empty (g : kgf φ) (h0 : ∀ m c, ¬ (m = 3 ∨ m = 4 ∨ m = 8 ∨ m = 9) → ψ m c = φ m c) (h3 : ∀ c, 0 ≤ c → c < φ 7 0 → ψ 3 c = -1) (h8 : 1 ≤ ψ 8 0 ∧ ψ 8 0 ≤ 12) (h9 : 1 ≤ ψ 9 0 ∧ ψ 9 0 ≤ 12) : kgf ψ := by
  obtain ⟨⟨b7, b8, b9, bc⟩, gd, gs, gl, gw, gp, gy, gm, gz⟩ := g
  have e0 := fun c => h0 0 c (by decide)
  have e1 := fun c => h0 1 c (by decide)
  have e2 := fun c => h0 2 c (by decide)
  have e5 := fun c => h0 5 c (by decide)
  have e7 := h0 7 0 (by decide)
  have e10 := h0 10 0 (by decide)
  refine ⟨⟨by rw [e7]; exact b7, by omega, by omega, fun c c0 c1 => ?_⟩, fun c d px py c0 c1 d0 d1 hc hd => ?_, fun c c0 c1 => ?_, fun c c0 c1 hx => ?_, ⟨h8.1, h9.1⟩, by rw [e10]; exact gp, by rw [e5]; exact gy, by rw [e5]; exact gm, by rw [e5]; exact gz⟩
  · rw [e7] at c1
    rw [e0]
    exact ⟨(bc c c0 c1).1, Or.inl (h3 c c0 c1)⟩
  · rw [e7] at c1
    exact absurd (h3 c c0 c1) hc.1
  · rw [e7] at c1
    rw [e0, e1, e2]
    exact gs c c0 c1
  · rw [e7] at c1
    exact absurd (h3 c c0 c1) hx
/-- the relation hangs not on the sheet -/
theorem RS_sh (h : RS A a sa t M V W) (hV : ∀ b m z, b ≠ A 8 → V2 b m z = V b m z) : RS A a sa t M V2 W := by
  obtain ⟨h1, ⟨h2, h3, h4⟩, h5, h8, h9, h10⟩ := h
  have hA := h1.1
  have n : ∀ i : Nat, i < 38 → i ≠ 8 → ∀ m z, V2 (A i) m z = V (A i) m z := fun i hi h8 m z => hV (A i) m z (inj_n hA hi (by decide) h8)
  have s8 : sa ≠ A 8 := Ne.symm (h4 8 (by decide))
  obtain ⟨-, -, -, -, -, -, -, -, -, -, -, hw⟩ := id h1
  have hR : RR A a V2 W := RR_cs h1 (fun i m z hi hm hL => n i hi (fun e => by subst e; cases hL) m z) (fun k k0 k1 => by rw [n 14 (by decide) (by decide)]; exact hw k k0 k1)
  refine ⟨hR, ⟨(n 0 (by decide) (by decide) 11 0).trans h2, h3, h4⟩, h5, ?_, fun m z => (hV (-1) m z (Ne.symm (hA.2 8 (by decide)))).trans (h9 m z), fun z => ?_⟩
  · unfold rdB
    rw [hV sa 6 0 s8]
    exact ⟨h8.1, fun z => by rw [hV sa 2 z s8]; exact h8.2 z⟩
  · rw [n 1 (by decide) (by decide), n 1 (by decide) (by decide)]
    exact h10 z
/-- a floor made of the laid one, all of which is in the sheet; prepared, and then a round -/
theorem p_sheet (hR : RS A a sa t M V W) (ht : t < 2147483647) (hk : kgf (V (A 8))) (hs : fsm V (A 8) (A 4)) (hl : f_X8_forcedLaw V (A 1) = (lx, ())) (hp : f_X7_prepare V sa (A 8) lx (A 13) = (V2, y)) : V2 sa 11 0 = blc (cvk V2 (A 8) 0) (V2 (A 8) 8 0) (V2 (A 8) 9 0) ∧ (∀ ch en U, sB sa ch en (xM M (A 14)) V2 U → sS U sa (A 8) (xM M (A 14)) (-1) (V (A 8) 7 0).toNat (prW W a) (fun c z => pcV ch (prW W a c z)) ∧ pC sa (fun c z => pcV ch (prW W a c z)) U U) ∧ ∀ ch en U V3 r, sB sa ch en (xM M (A 14)) V2 U → sV sa (xM M (A 14)) U V3 ∧ pC sa (fun c z => pcV ch (prW W a c z)) U V3 → sNd ch en (sNk U (A 8) (-1) (V (A 8) 7 0).toNat (prW W a) 9 0) (sLk U (A 8) (-1) (V (A 8) 7 0).toNat (prW W a) 9 0) r → RS A a sa (t + 1) M V3 W ∧ (∀ b m z, ¬ (b = sa) → ¬ xM M (A 14) b m z → ¬ (b = A 8 ∧ m = 6) → V3 b m z = V b m z) ∧ sNd ch en (rN (V (A 8)) (prW W a) noag) (rL (V (A 8)) (prW W a) noag) r := p_all hR ht (JX_lx (RR_JX hR.1) hl).2 (law_lx hR.1 (forced_lx hl)) (Or.inr rfl) hk hs hp
end QVR
section QVS
variable {V V' V0 V1 V2 V3 V4 U W W' : dV} {X : Int → Nat → Int → Prop} {M : Int → Prop} {A : Nat → Int} {a sa fl si x y z t c cell p s w h k r left lx ch en : Int} {n m i j : Nat} {pr pc : Nat → Int → Int}
theorem s_prI (hS : sS V0 sa fl X si n pr pc) (hV : sV sa X V0 V ∧ pC sa pc V0 V) (c0 : 0 ≤ c) (hc : c < (n : Int)) (z0 : 0 ≤ z) (z1 : z < 144) (e : f_X7_priceAt V sa c z = (V1, p)) : sV sa X V0 V1 ∧ pC sa pc V0 V1 := by
  obtain ⟨i, rfl⟩ : ∃ i : Nat, c = (i : Int) := ⟨c.toNat, by omega⟩
  exact (s_pr hS hV (by omega) z0 z1 e).1
theorem s_aloneI (hS : sS V0 sa fl X si n pr pc) (hV : sV sa X V0 V ∧ pC sa pc V0 V) (c0 : 0 ≤ c) (hc : c < (n : Int)) (hb : V0 sa 11 0 = blc (cvk V0 fl 0) (V0 fl 8 0) (V0 fl 9 0)) (e : f_X7_fillsAlone V sa c = (V1, y)) : (sV sa X V0 V1 ∧ pC sa pc V0 V1) ∧ (y = 1 ∨ y = 0) ∧ (y = 1 ↔ ∃ cell, fb1 (cvk V0 fl 0) (V0 fl 8 0) (V0 fl 9 0) cell ∧ cell ≠ -1 ∧ V0 fl 0 c * V0 fl 0 c = blc (cvk V0 fl 0) (V0 fl 8 0) (V0 fl 9 0) ∧ okc (sSD V0 fl) pr (sAG V0 fl si) (V0 fl 8 0) (V0 fl 9 0) (cvk V0 fl 0) (rdk V0 fl 0) c.toNat) := by
  obtain ⟨i, rfl⟩ : ∃ i : Nat, c = (i : Int) := ⟨c.toNat, by omega⟩
  exact s_alone hS hV hc hb e
/-- a search made ready, and no round begun -/
theorem RS_pF (hR : RS A a sa t M V W) (hj : j = 4 ∨ j = 8) (hF : pF sa (A j) V V2) : RS A a sa t M V2 W := by
  obtain ⟨h1, ⟨h2, h3, h4⟩, ⟨h5, h6, h7⟩, h8, h9, h10⟩ := hR
  have hA := h1.1
  have j8 : j < 38 := by omega
  have FA : ∀ (i m : Nat) (z : Int), i < 38 → ¬ (i = j ∧ m = 6) → V2 (A i) m z = V (A i) m z := fun i m z hi q => hF (A i) m z (fun g => h4 i hi g.1) (fun g => q ⟨hA.1 i j hi j8 g.1, g.2⟩)
  have s6 : V2 sa 6 0 = V sa 6 0 := hF sa 6 0 (fun g => absurd g.2.1 (by decide)) (fun g => h4 j j8 g.1.symm)
  have s2 : ∀ z, V2 sa 2 z = V sa 2 z := fun z => hF sa 2 z (fun g => absurd g.2.1 (by decide)) (fun g => h4 j j8 g.1.symm)
  obtain ⟨-, -, -, -, -, -, -, -, -, -, -, hw⟩ := id h1
  have hRR : RR A a V2 W := RR_cs h1 (fun i m z hi hm hL => FA i m z hi (fun e => by
    rw [e.1, e.2] at hL
    rcases hj with rfl | rfl <;> cases hL)) (fun k k0 k1 => by rw [FA 14 1 k (by decide) (fun g => by omega)]; exact hw k k0 k1)
  refine ⟨hRR, ⟨(FA 0 11 0 (by decide) (fun g => by omega)).trans h2, h3, h4⟩, ⟨h5, h6, h7⟩, ⟨by rw [s6]; exact h8.1, fun z => by rw [s6, s2]; exact h8.2 z⟩, fun m z => ?_, fun z => ?_⟩
  · exact (hF (-1) m z (fun g => h3 g.1.symm) (fun g => hA.2 j j8 g.1.symm)).trans (h9 m z)
  · rw [FA 1 2 z (by decide) (fun g => by omega), FA 1 3 z (by decide) (fun g => by omega)]
    exact h10 z
/-- prepare, heed, and then a round -/
theorem p_all2 (hR : RS A a sa t M V W) (ht : t < 2147483647) (hl : f_X8_forcedLaw V (A 1) = (lx, ())) (hp : f_X7_prepare V sa (A 4) lx (A 13) = (V2, y)) (hh : f_X7_heed V2 sa (A 1) = (V3, x)) : RS A a sa t M V3 W ∧ ((x = 1 ∨ x = 0) ∧ (x = 1 ↔ hdO V (A 4) (A 1))) ∧ V3 sa 11 0 = blc (cvk V3 (A 4) 0) (V3 (A 4) 8 0) (V3 (A 4) 9 0) ∧ (∀ ch en U, sB sa ch en (xM M (A 14)) V3 U → sS U sa (A 4) (xM M (A 14)) (A 1) (V (A 4) 7 0).toNat (prW W a) (fun c z => pcV ch (prW W a c z)) ∧ pC sa (fun c z => pcV ch (prW W a c z)) U U) ∧ (∀ ch en U V4 pc, sB sa ch en (xM M (A 14)) V3 U → sV sa (xM M (A 14)) U V4 ∧ pC sa pc U V4 → RS A a sa (t + 1) M V4 W ∧ ∀ b m z, ¬ (b = sa) → ¬ xM M (A 14) b m z → ¬ (b = A 4 ∧ m = 6) → V4 b m z = V b m z) ∧ ∀ ch en U r, sB sa ch en (xM M (A 14)) V3 U → sNd ch en (sNk U (A 4) (A 1) (V (A 4) 7 0).toNat (prW W a) 9 0) (sLk U (A 4) (A 1) (V (A 4) 7 0).toNat (prW W a) 9 0) r → sNd ch en (rN (V (A 4)) (prW W a) (fun c z => agS V (A 1) (V (A 4) 0 (c : Int)) (z % 12) (z / 12))) (rL (V (A 4)) (prW W a) (fun c z => agS V (A 1) (V (A 4) 0 (c : Int)) (z % 12) (z / 12))) r := by
  obtain ⟨h1, ⟨h2, h3, h4⟩, ⟨h5, h6, h7⟩, -⟩ := id hR
  have hA := h1.1
  have hk := (RR_n h1).1
  have n41 : A 4 ≠ A 1 := inj_n hA (by decide) (by decide) (by decide)
  obtain ⟨k1, k2, k3, k4⟩ := p_prep hk (h4 4 (by decide)) hp
  have q2 : fl_eq (V (A 4)) (V2 (A 4)) := fun m z _ h6 => (k1 (A 4) m z (fun g => h4 4 (by decide) g.1) (fun g => h6 g.2)).symm
  obtain ⟨r, e1, e2, e3⟩ := q_heed (V := V2) (sa := sa) (fl := A 4) (si := A 1) k2.2.1 (h4 4 (by decide)) (h4 1 (by decide)) (fl_kg q2 hk)
  rw [e1] at hh
  obtain ⟨rfl, rfl⟩ := Prod.mk.inj hh
  have F3 : ∀ b m z, ¬ (b = sa ∧ m = 10) → dv_u V2 sa 10 0 (A 1) b m z = V2 b m z := fun b m z q => ub_n q
  have f3 : ∀ m z, dv_u V2 sa 10 0 (A 1) (A 4) m z = V2 (A 4) m z := fun m z => F3 (A 4) m z (fun g => h4 4 (by decide) g.1)
  have kF : pF sa (A 4) V (dv_u V2 sa 10 0 (A 1)) := fun b m z p1 p2 => (F3 b m z (fun g => p1 ⟨g.1, by rw [g.2]; decide⟩)).trans (k1 b m z p1 p2)
  have he : dv_u V2 sa 10 0 (A 1) sa 7 0 = A 13 ∧ dv_u V2 sa 10 0 (A 1) sa 8 0 = A 4 ∧ dv_u V2 sa 10 0 (A 1) sa 9 0 = lx ∧ dv_u V2 sa 10 0 (A 1) sa 10 0 = A 1 := ⟨(F3 sa 7 0 (fun g => absurd g.2 (by decide))).trans k2.1, (F3 sa 8 0 (fun g => absurd g.2 (by decide))).trans k2.2.1, (F3 sa 9 0 (fun g => absurd g.2 (by decide))).trans k2.2.2.1, ub_e⟩
  have ec : cvk (dv_u V2 sa 10 0 (A 1)) (A 4) 0 = cvk V2 (A 4) 0 := by
    unfold cvk
    funext px py
    rw [f3]
  have hJ := (JX_lx (RR_JX h1) hl).2
  have hx := law_lx h1 (forced_lx hl)
  have v4 : ∀ m z, m ≠ 6 → V2 (A 4) m z = V (A 4) m z := fun m z h6 => k1 (A 4) m z (fun g => h4 4 (by decide) g.1) (fun g => h6 g.2)
  have v1 : ∀ m z, V2 (A 1) m z = V (A 1) m z := fun m z => k1 (A 1) m z (fun g => h4 1 (by decide) g.1) (fun g => n41 g.1.symm)
  have hd : hdO V2 (A 4) (A 1) ↔ hdO V (A 4) (A 1) := by
    unfold hdO cov
    have w0 : ∀ z, V2 (A 4) 0 z = V (A 4) 0 z := fun z => v4 0 z (by decide)
    have w3 : ∀ z, V2 (A 4) 3 z = V (A 4) 3 z := fun z => v4 3 z (by decide)
    have w4 : ∀ z, V2 (A 4) 4 z = V (A 4) 4 z := fun z => v4 4 z (by decide)
    have w7 := v4 7 0 (by decide)
    have w8 := v4 8 0 (by decide)
    have w9 := v4 9 0 (by decide)
    simp only [v1, w0, w3, w4, w7, w8, w9]
  refine ⟨RS_pF hR (Or.inl rfl) kF, ⟨e2, e3.trans hd⟩, ?_, fun ch en U hB => p_face hR ht hJ hx (Or.inl rfl) hk fsm_r kF he (Or.inr rfl) hB, fun ch en U V4 pc hB hV => p_done hR ht (Or.inl rfl) kF hB hV, fun ch en U r hB hN => ?_⟩
  · rw [F3 sa 11 0 (fun g => absurd g.2 (by decide)), ec, f3, f3]
    exact k3
  · have u1 : ∀ m z, U (A 1) m z = V (A 1) m z := fun m z => ((hB.1 (A 1) m z (fun g => h4 1 (by decide) g.1) (xM_n (h7 1 (by decide)) (inj_n hA (by decide) (by decide) (by decide)))).trans (F3 (A 1) m z (fun g => h4 1 (by decide) g.1))).trans (v1 m z)
    refine p_ans kF hk ⟨inj_n hA (by decide) (by decide) (by decide), h4 4 (by decide), h7 4 (by decide)⟩ (fun px py a0 a1 b0 b1 => by rw [ec]; exact k4 px py a0 a1 b0 b1) (fun c z _ _ _ => ?_) hB hN
    unfold agS
    simp only [u1]
/-- the class's objects that a search reads -/
theorem RS_ad (h : RS A a sa t M V W) : V (A 0) 0 0 = A 1 ∧ V (A 1) 0 0 = A 4 ∧ V (A 0) 4 0 = A 8 ∧ V (A 0) 9 0 = A 13 ∧ V (A 0) 11 0 = sa := by
  obtain ⟨⟨-, ⟨⟨g0, -, -, -, g4, -, -, -, -, g9, -⟩, -, -, gk⟩, -⟩, ⟨h2, -⟩, -⟩ := h
  exact ⟨g0, (gk 0 (by decide)).1, g4, g9, h2⟩
/-- a law that is there -/
theorem law_in (h : RR A a V W) (hl : f_X8_lawOf V (A 1) p = (lx, ())) (ho : p = -1 ∨ lx ≠ -1) : -1 ≤ p ∧ p < W a 2 71 := by
  obtain ⟨-, -, ⟨-, -, ⟨l1, l2, -⟩⟩, -⟩ := h
  have l1 : V (A 1) 5 0 = W a 2 (0 + 71) := l1
  rw [Int.zero_add] at l1
  have l2 : 0 ≤ V (A 1) 5 0 ∧ V (A 1) 5 0 ≤ 6 := l2
  rw [c_lawOf] at hl
  by_cases e : 0 ≤ p ∧ p < V (A 1) 5 0
  · omega
  · rw [if_neg e] at hl
    have q := congrArg Prod.fst hl
    dsimp only at q
    omega
theorem law_out (h : RR A a V W) (hl : f_X8_lawOf V (A 1) p = (-1, ())) (hp : p ≠ -1) : ¬ (-1 ≤ p ∧ p < W a 2 71) := fun g => by
  obtain ⟨hA, ⟨-, -, -, gk⟩, ⟨-, -, ⟨l1, l2, -⟩⟩, -⟩ := h
  have l1 : V (A 1) 5 0 = W a 2 (0 + 71) := l1
  rw [Int.zero_add] at l1
  have l2 : 0 ≤ V (A 1) 5 0 ∧ V (A 1) 5 0 ≤ 6 := l2
  rw [c_lawOf, if_pos (by omega)] at hl
  have q := congrArg Prod.fst hl
  dsimp only at q
  have hx := (gk 0 (by decide)).2 p.toNat (by omega)
  rw [show ((p.toNat : Nat) : Int) = p by omega] at hx
  exact hA.2 (20 + 6 * 0 + p.toNat) (by omega) (hx.symm.trans q)
theorem laid_c (e : f_X1_isLaid V fl c = (r, ())) (h : r ≠ 0) : 0 ≤ c ∧ c < V fl 7 0 ∧ V fl 3 c ≠ -1 := by
  rw [q_isLaid] at e
  have q := congrArg Prod.fst e
  dsimp only at q
  by_cases g : 0 ≤ c ∧ c < V fl 7 0 ∧ V fl 3 c ≠ -1
  · exact g
  · rw [if_neg g] at q
    exact absurd q.symm h
/-- a hall of another shape, empty, in the sheet -/
theorem p_hall (hR : RS A a sa t M V W) (hc : f_X1_copyFrom V (A 8) (A 4) = (V1, y)) (he : f_X1_emptyInto V1 (A 8) w h = (V2, x)) (hw : 1 ≤ w ∧ w ≤ 12) (hh : 1 ≤ h ∧ h ≤ 12) : RS A a sa t M V2 W ∧ kgf (V2 (A 8)) ∧ fsm V2 (A 8) (A 4) ∧ (∀ b m z, b ≠ A 8 → V2 b m z = V b m z) ∧ (∀ c, 0 ≤ c → c < V (A 4) 7 0 → V2 (A 8) 3 c = -1) ∧ V2 (A 8) 8 0 = w ∧ V2 (A 8) 9 0 = h := by
  have hA := hR.1.1
  have hk := (RR_n hR.1).1
  have n48 : A 4 ≠ A 8 := inj_n hA (by decide) (by decide) (by decide)
  obtain ⟨f1, kk, fs, s0, s5, s7, -⟩ := sh_copy hA hk hc
  obtain ⟨V', e1, e2, e3, e4, e5⟩ := sh_empty (V := V1) (d := A 8) (w := w) (h := h) (by rw [s7]; exact hk.1.1.1)
  rw [e1] at he
  obtain ⟨rfl, -⟩ := Prod.mk.inj he
  have F : ∀ b m z, b ≠ A 8 → V' b m z = V b m z := fun b m z q => (e2 b m z (fun g => q g.1)).trans (f1 b m z q)
  have v4 : ∀ m z, V' (A 4) m z = V1 (A 4) m z := fun m z => e2 (A 4) m z (fun g => n48 g.1)
  have v8 : ∀ m z, ¬ (m = 3 ∨ m = 4 ∨ m = 8 ∨ m = 9) → V' (A 8) m z = V1 (A 8) m z := fun m z q => e2 (A 8) m z (fun g => q g.2)
  have h3 : ∀ c, 0 ≤ c → c < V (A 4) 7 0 → V' (A 8) 3 c = -1 := fun c c0 c1 => (e3 c c0 (by rw [s7]; exact c1)).1
  refine ⟨RS_sh hR F, kg_empty kk v8 (fun c c0 c1 => h3 c c0 (by rw [← s7]; exact c1)) (by rw [e4]; exact hw) (by rw [e5]; exact hh), ⟨fun c c0 c9 => ?_, ?_, ?_, ?_⟩, F, h3, e4, e5⟩
  · rw [v8 0 c (by decide), v8 1 c (by decide), v8 2 c (by decide), v4, v4, v4]
    exact fs.1 c c0 c9
  · rw [v8 5 0 (by decide), v4]; exact fs.2.1
  · rw [v8 5 2 (by decide), v4]; exact fs.2.2.1
  · rw [v8 7 0 (by decide), v4]; exact fs.2.2.2
/-- the laid floor with one carpet rolled up, in the sheet -/
theorem p_free (hR : RS A a sa t M V W) (hc : f_X1_copyFrom V (A 8) (A 4) = (V1, y)) (he : f_X1_rollUp V1 (A 8) c = (V2, x)) (c0 : 0 ≤ c) (c1 : c < V (A 4) 7 0) : RS A a sa t M V2 W ∧ kgf (V2 (A 8)) ∧ fsm V2 (A 8) (A 4) ∧ (∀ b m z, b ≠ A 8 → V2 b m z = V b m z) ∧ V2 (A 8) 7 0 = V (A 4) 7 0 := by
  have hA := hR.1.1
  have hk := (RR_n hR.1).1
  have n48 : A 4 ≠ A 8 := inj_n hA (by decide) (by decide) (by decide)
  obtain ⟨f1, kk, fs, s0, s5, s7, -⟩ := sh_copy hA hk hc
  rw [c_rollUp (V := V1) (fl := A 8) (c := c) ⟨c0, by rw [s7]; exact c1⟩] at he
  obtain ⟨rfl, -⟩ := Prod.mk.inj he
  have e2 : ∀ b m z, ¬ (b = A 8 ∧ (m = 3 ∨ m = 4)) → dv_u (dv_u V1 (A 8) 3 c (-1)) (A 8) 4 c (-1) b m z = V1 b m z := fun b m z q => by
    rw [ub_n (fun g => q ⟨g.1, Or.inr g.2⟩), ub_n (fun g => q ⟨g.1, Or.inl g.2⟩)]
  have F : ∀ b m z, b ≠ A 8 → dv_u (dv_u V1 (A 8) 3 c (-1)) (A 8) 4 c (-1) b m z = V b m z := fun b m z q => (e2 b m z (fun g => q g.1)).trans (f1 b m z q)
  have v4 : ∀ m z, dv_u (dv_u V1 (A 8) 3 c (-1)) (A 8) 4 c (-1) (A 4) m z = V1 (A 4) m z := fun m z => e2 (A 4) m z (fun g => n48 g.1)
  have v8 : ∀ m z, ¬ (m = 3 ∨ m = 4) → dv_u (dv_u V1 (A 8) 3 c (-1)) (A 8) 4 c (-1) (A 8) m z = V1 (A 8) m z := fun m z q => e2 (A 8) m z (fun g => q g.2)
  have w0 := fun z => v8 0 z (by decide)
  have w1 := fun z => v8 1 z (by decide)
  have w2 := fun z => v8 2 z (by decide)
  have w5 := fun z => v8 5 z (by decide)
  have w7 := v8 7 0 (by decide)
  have kp := kk.2.2.2.2.2.1
  have ky := kk.2.2.2.2.2.2.1
  refine ⟨RS_sh hR F, kg_sub kk (fun d d0 d1 => ⟨w0 d, w1 d, ?_, ?_⟩) w7 (v8 8 0 (by decide)) (v8 9 0 (by decide)) (by rw [v8 10 0 (by decide)]; exact kp) (by rw [w5]; exact ky) (w5 1) (w5 2), ⟨fun d d0 d9 => ?_, ?_, ?_, ?_⟩, F, w7.trans s7⟩
  · rw [w2]
    exact (kk.2.2.1 d d0 d1).2.2.2
  · by_cases g : d = c
    · right
      subst g
      rw [ub_n (fun g => absurd g.2 (by decide)), ub_e]
    · left
      unfold dv_u
      exact ⟨by rw [if_neg (fun q => absurd q.2.1 (by decide)), if_neg (fun q => g q.2.2)], by rw [if_neg (fun q => g q.2.2), if_neg (fun q => absurd q.2.1 (by decide))]⟩
  · rw [w0, w1, w2, v4, v4, v4]
    exact fs.1 d d0 d9
  · rw [w5, v4]; exact fs.2.1
  · rw [w5, v4]; exact fs.2.2.1
  · rw [w7, v4]; exact fs.2.2.2
end QVS
section QVX
variable {V W W' W1 U : dV} {a p q k x y s w h z M N S9 : Int} {n d c : Nat} {sd : Nat → Int} {pr : Nat → Int → Int} {C : Int → Int → Prop} {S : Nat → Prop} {o : Option (List Nat)}
/-- one does -/
def rx1 (a : Int) (W : dV) (P : Nat → Prop) (n : Nat) (sd : Nat → Int) (pr : Nat → Int → Int) (w h : Int) : Prop := (W a 2 69 = (n : Int) ∧ (∀ c : Nat, c < n → W a 2 (29 + (c : Int)) = sd c) ∧ (∀ (c : Nat) (z : Int), c < n → P c → 0 ≤ z → z < 144 → W a 34 (144 * (c : Int) + z) = pr c z)) ∧ W a 39 0 = w ∧ W a 40 0 = h ∧ W a 44 0 = 0 ∧ W a 45 0 = 1
theorem rx1_c {P : Nat → Prop} (h0 : rx1 a W P n sd pr w h) (f : gf a W W') : rx1 a W' P n sd pr w h := by
  obtain ⟨⟨h1, h2, h3⟩, h4, h5, h6, h7⟩ := h0
  have e2 := fun z => gf_m f (m := 2) (by decide) z
  refine ⟨⟨by rw [e2]; exact h1, fun c hc => by rw [e2]; exact h2 c hc, fun c z hc hP z0 z1 => by rw [gf_m f (by decide)]; exact h3 c z hc hP z0 z1⟩, ?_, ?_, ?_, ?_⟩
  · rw [gf_m f (by decide)]; exact h4
  · rw [gf_m f (by decide)]; exact h5
  · rw [gf_m f (by decide)]; exact h6
  · rw [gf_m f (by decide)]; exact h7
def oq (M N : Int) : Int := if 0 < M then M else if 0 < N then 1 else 0
theorem oq_s (hM : 0 ≤ M) (hS : 0 ≤ S9) (hN : 0 ≤ N) : oq (oq M S9) N = oq M (S9 + N) := by
  unfold oq
  by_cases e1 : 0 < M
  · rw [if_pos e1, if_pos e1, if_pos e1]
  · rw [if_neg e1, if_neg e1]
    by_cases e2 : 0 < S9
    · rw [if_pos e2, if_pos (by decide), if_pos (by omega)]
    · rw [if_neg e2, if_neg (by decide)]
      by_cases e3 : 0 < N
      · rw [if_pos e3, if_pos (by omega)]
      · rw [if_neg e3, if_neg (by omega)]
theorem oq_b (hM : 0 ≤ M ∧ M ≤ 1) : 0 ≤ oq M N ∧ oq M N ≤ 1 := by
  unfold oq
  split
  · exact hM
  · split <;> decide
def oQ (a : Int) (W W' : dV) (N : Int) : Prop := gf a W W' ∧ bsm a W W' ∧ W' a 41 0 = oq (W a 41 0) N
theorem o_goesB {P : Nat → Prop} {rc : dV → Int → Int → Int → Int → dR} (hs : rs n sd pr w h) (hrc : ∀ (d' : Nat) (W : dV) (p q k : Int), d = d' + 1 → rx1 a W P n sd pr w h → (∀ c, c < n → lfs p c → P c) → cnt p ≤ d' → 0 ≤ q → (0 ≤ k ∧ k + 99 * (d' : Int) ≤ 1000000) → (0 ≤ W a 41 0 ∧ W a 41 0 ≤ 1) → ∃ W' : dV, rc W a p q k = (W', 0) ∧ oQ a W W' (sN sd pr noag w h n d' (cw a W) (lfs p))) (hx : rx1 a W P n sd pr w h) (hP : ∀ c, c < n → lfs p c → P c) (hc : cnt p ≤ d) (q0 : 0 ≤ q) (hk : 0 ≤ k ∧ k + 99 * (d : Int) ≤ 1000000) (h41 : 0 ≤ W a 41 0 ∧ W a 41 0 ≤ 1) : ∃ W' : dV, f_X12_goesOn_B d rc W a p q k = (W', 0) ∧ oQ a W W' (sN sd pr noag w h n d (cw a W) (lfs p)) := by
  obtain ⟨n9, ⟨w0, w12⟩, ⟨h0, h12⟩, hsd, hpr⟩ := id hs
  obtain ⟨⟨x1, x2, x3⟩, x39, x40, x44, x45⟩ := id hx
  obtain ⟨r, r1, r2⟩ := q_mfb (W := W) (a := a) (w := w) (h := h) (C := cw a W) w12 h12 (fun px py _ _ _ _ => Iff.rfl)
  have er := fbC_is w12 r2
  have hful := fb1_ful r2
  unfold f_X12_goesOn_B
  rw [bq, if_neg (by rw [x45]; decide), bq]
  by_cases e41 : W a 41 0 ≤ 0
  case neg =>
    rw [if_neg e41]
    exact ⟨W, rfl, gf_r, fun _ _ _ _ _ => rfl, by unfold oq; rw [if_pos (by omega)]⟩
  have z41 : W a 41 0 = 0 := by omega
  rw [if_pos e41]
  unfold f_X12_goesOn_15
  rw [bq, bq, x39, x40, dv_bn2 r1]
  by_cases e : r = -1
  · have f := hful.mpr e
    obtain ⟨W', g1, g2, g3, g4, g5, g6, g7⟩ := g_fill (W := W) (a := a) (q := q) (k := k) x44 (by omega) q0
    rw [if_neg (fun g => g e), dv_bn2 g1, sN_f f]
    refine ⟨W', rfl, g2, fun py _ _ i _ => by rw [g3], ?_⟩
    rw [g5, z41]
    rfl
  have nf : ¬ ful (cw a W) w h := fun f => e (hful.mp f)
  have hr : (0 ≤ r % 12 ∧ r % 12 < w) ∧ (0 ≤ r / 12 ∧ r / 12 < h) ∧ 0 ≤ r ∧ r < 144 := by
    rcases r2 with ⟨rfl, k1⟩ | ⟨px, py, rfl, ⟨a0, a1⟩, ⟨b0, b1⟩, -⟩
    · exact absurd rfl e
    · omega
  rw [if_pos e, bq, bq]
  -- what the carpets up to j give
  have hz : ∃ d', d = d' + 1 ∨ (d = 0 ∧ d' = 0) := by
    cases d with
    | zero => exact ⟨0, Or.inr ⟨rfl, rfl⟩⟩
    | succ d' => exact ⟨d', Or.inl rfl⟩
  obtain ⟨d', hd'⟩ := hz
  rcases hd' with rfl | ⟨rfl, rfl⟩
  case inr =>
    -- nothing is left
    rw [sN_0 nf]
    refine dv_inv (b := f_X12_goesOn_59b 0 rc) (P := fun s => ∃ j : Int, s = (W, r / 12, r % 12, r, a, p, q, k, j) ∧ 0 ≤ j) (Q := fun t => ∃ W' : dV, t = (W', 0) ∧ oQ a W W' 0) (m := fun s => (9 - s.2.2.2.2.2.2.2.2).toNat) ?_ _ ⟨0, rfl, by decide⟩
    rintro s ⟨j, rfl, j0⟩
    rw [f_X12_goesOn_59e]
    unfold f_X12_goesOn_59c
    rw [dv_bn2 q_many, x1]
    by_cases e1 : (n : Int) ≤ j
    · rw [if_pos e1]
      exact Or.inr ⟨_, rfl, W, rfl, gf_r, fun _ _ _ _ _ => rfl, by rw [z41]; rfl⟩
    · rw [if_neg e1, dv_bn2 (q_isIn j0 (by omega))]
      have e2 : ¬ qb p j.toNat = true := fun g => by
        have := cnt_off j0 (show j < 9 by omega) g
        omega
      rw [if_neg e2, if_pos rfl, bq]
      exact Or.inl ⟨_, rfl, ⟨j + 1, rfl, by omega⟩, by dsimp only; omega⟩
  rw [sN_s nf]
  have hN2 : ∀ c, 0 ≤ ip (okc sd pr noag w h (cw a W) (lfs p) c) * sN sd pr noag w h n d' (nxC sd w h (cw a W) c) (wo1 (lfs p) c) ∧ ip (okc sd pr noag w h (cw a W) (lfs p) c) * sN sd pr noag w h n d' (nxC sd w h (cw a W) c) (wo1 (lfs p) c) ≤ ((9 ^ d' : Nat) : Int) := fun c => by
    have hN := sN_b (sd := sd) (pr := pr) (ag := noag) (w := w) (h := h) (d := d') (C := nxC sd w h (cw a W) c) (S := wo1 (lfs p) c) n9
    by_cases g : okc sd pr noag w h (cw a W) (lfs p) c
    · rw [ip_1 g, Int.one_mul]; exact hN
    · rw [ip_0 g, Int.zero_mul]; omega
  have hsum : ∀ m : Nat, 0 ≤ qs (fun c => ip (okc sd pr noag w h (cw a W) (lfs p) c) * sN sd pr noag w h n d' (nxC sd w h (cw a W) c) (wo1 (lfs p) c)) m := fun m => (qs_b (fun c _ => hN2 c)).1
  refine dv_inv (b := f_X12_goesOn_59b (d' + 1) rc) (P := fun s => ∃ (j : Nat) (T : dV), s = (T, r / 12, r % 12, r, a, p, q, k, (j : Int)) ∧ j ≤ n ∧ gf a W T ∧ bsm a W T ∧ T a 41 0 = oq (W a 41 0) (qs (fun c => ip (okc sd pr noag w h (cw a W) (lfs p) c) * sN sd pr noag w h n d' (nxC sd w h (cw a W) c) (wo1 (lfs p) c)) j)) (Q := fun t => ∃ W' : dV, t = (W', 0) ∧ oQ a W W' (qs (fun c => ip (okc sd pr noag w h (cw a W) (lfs p) c) * sN sd pr noag w h n d' (nxC sd w h (cw a W) c) (wo1 (lfs p) c)) n)) (m := fun s => (9 - s.2.2.2.2.2.2.2.2).toNat) ?_ _ ⟨0, W, rfl, Nat.zero_le _, gf_r, fun _ _ _ _ _ => rfl, by rw [z41]; rfl⟩
  rintro s ⟨j, T, rfl, jn, T1, T2, T3⟩
  have hxT := rx1_c hx T1
  obtain ⟨⟨y1, y2, y3⟩, y39, y40, y44, y45⟩ := id hxT
  rw [f_X12_goesOn_59e]
  unfold f_X12_goesOn_59c
  rw [dv_bn2 q_many, y1]
  by_cases e1 : (n : Int) ≤ (j : Int)
  · have ej : j = n := by omega
    subst ej
    rw [if_pos e1]
    exact Or.inr ⟨_, rfl, T, rfl, T1, T2, T3⟩
  rw [if_neg e1]
  left
  have j9 : j < 9 := by omega
  have skip : ¬ okc sd pr noag w h (cw a W) (lfs p) j → ∃ t, (Sum.inl (T, r / 12, r % 12, r, a, p, q, k, (j : Int) + 1) : Sum (dV × Int × Int × Int × Int × Int × Int × Int × Int) dR) = Sum.inl t ∧ (∃ (j : Nat) (T : dV), t = (T, r / 12, r % 12, r, a, p, q, k, (j : Int)) ∧ j ≤ n ∧ gf a W T ∧ bsm a W T ∧ T a 41 0 = oq (W a 41 0) (qs (fun c => ip (okc sd pr noag w h (cw a W) (lfs p) c) * sN sd pr noag w h n d' (nxC sd w h (cw a W) c) (wo1 (lfs p) c)) j)) ∧ (9 - t.2.2.2.2.2.2.2.2).toNat < (9 - (j : Int)).toNat := fun g => by
    refine ⟨_, rfl, ⟨j + 1, T, by rw [Int.natCast_succ], by omega, T1, T2, ?_⟩, by dsimp only; omega⟩
    show _ = oq (W a 41 0) (qs _ j + ip (okc sd pr noag w h (cw a W) (lfs p) j) * sN sd pr noag w h n d' (nxC sd w h (cw a W) j) (wo1 (lfs p) j))
    rw [ip_0 g, Int.zero_mul, Int.add_zero]
    exact T3
  rw [dv_bn2 (q_isIn (by omega) (by omega)), Int.toNat_natCast]
  by_cases e2 : qb p j = true
  case neg =>
    rw [if_neg e2, if_pos rfl, bq]
    exact skip (fun g => e2 g.1)
  have eP : f_X12_priceAt T a (j : Int) r = (pr j r, ()) := by
    unfold f_X12_priceAt
    rw [bq, bq, bq, y3 j r (by omega) (hP j (by omega) e2) hr.2.2.1 hr.2.2.2]
  rw [if_pos e2, if_neg (show ¬ (1 : Int) = 0 by decide), dv_bn2 eP]
  by_cases e3 : pr j r = -1
  · rw [if_pos e3, bq]
    exact skip (fun g => by have := g.2.1; rw [er] at this; exact this e3)
  have s1 := hsd j (by omega)
  have b3 := hpr j r (by omega) hr.2.2.1 hr.2.2.2
  rw [if_neg e3, bq, bq, bq, bq, y2 j (by omega), y39, y40]
  obtain ⟨t, t1, t2, t3⟩ := q_isFree (V := T) (a := a) (s := sd j) (x := r % 12) (y := r / 12) (w := w) (h := h) (by omega)
  have key : t = 1 ↔ r % 12 + sd j ≤ w ∧ r / 12 + sd j ≤ h ∧ fpl (cw a W) (sd j) (r % 12) (r / 12) := by
    rw [t3]
    constructor
    · rintro ⟨k1, k2, k3⟩
      refine ⟨k1, k2, fun px py a0 a1 b0 b1 hcc => ?_⟩
      have g1 := qb_and0.mp (k3 py b0 b1) px.toNat (by omega)
      rw [T2 py (by omega) (by omega) px.toNat (by omega)] at g1
      exact g1 ⟨hcc, (qb_mk (by omega) s1.2 (by omega) (by omega) (by omega)).mpr (by omega)⟩
    · rintro ⟨k1, k2, k3⟩
      refine ⟨k1, k2, fun z z0 z1 => qb_and0.mpr (fun i hi g1 => ?_)⟩
      have g2 := (qb_mk (s := sd j) (x := r % 12) (by omega) s1.2 (by omega) (by omega) hi).mp g1.2
      rw [T2 z (by omega) (by omega) i hi] at g1
      refine k3 (i : Int) z (by omega) (by omega) z0 z1 ?_
      show qb (W a 29 z) (i : Int).toNat = true
      rw [Int.toNat_natCast]
      exact g1.1
  rw [dv_bn2 t1]
  by_cases e4 : t = 1
  case neg =>
    rw [if_neg (show ¬ t ≠ 0 from fun g => by omega), bq]
    exact skip (fun g => e4 (key.mpr (by have := g.2.2.1; rw [er] at this; exact this)))
  have pl := key.mp e4
  have ok : okc sd pr noag w h (cw a W) (lfs p) j := ⟨e2, by rw [er]; exact e3, by rw [er]; exact pl, trivial⟩
  rw [if_pos (show t ≠ 0 by omega), bq, bq, y2 j (by omega)]
  obtain ⟨U, u1, u2, u3⟩ := q_turns (V := T) (a := a) (s := sd j) (x := r % 12) (y := r / 12) (by omega)
  have F1 : gf a T (dv_u (dv_u U a 35 q (j : Int)) a 36 q r) := gf_t (gf_29 u2) (gf_t (gf_u (by decide)) (gf_u (by decide)))
  have hx1 := rx1_c hxT F1
  have v29 : ∀ z, dv_u (dv_u U a 35 q (j : Int)) a 36 q r a 29 z = U a 29 z := fun z => by rw [u_j (by decide), u_j (by decide)]
  have v41 : dv_u (dv_u U a 35 q (j : Int)) a 36 q r a 41 0 = T a 41 0 := by
    rw [u_j (by decide), u_j (by decide), u2 a 41 0 (fun g => absurd g.2 (by decide))]
  have eP1 : f_X12_priceAt (dv_u (dv_u U a 35 q (j : Int)) a 36 q r) a (j : Int) r = (pr j r, ()) := by
    unfold f_X12_priceAt
    rw [bq, bq, bq, hx1.1.2.2 j r (by omega) (hP j (by omega) e2) hr.2.2.1 hr.2.2.2]
  rw [dv_bn2 u1, bq, bq, bq, bq, bq, bq, dv_bn2 eP1, bq]
  generalize hV1 : dv_u (dv_u U a 35 q (j : Int)) a 36 q r = V1 at *
  rw [dv_add_ok (by omega) (by omega) (by omega) (by omega) (by omega) (by omega)]
  have cS : ∀ c, c < n → (lfs (dv_and p (dv_xor (dv_shl 1 (j : Int)) (-1))) c ↔ wo1 (lfs p) j c) := fun c hc => by
    unfold lfs wo1
    rw [qb_off (j := (j : Int)) (by omega) (by omega) (by omega), Int.toNat_natCast]
    simp
  obtain ⟨W2, g0, g1, g2, g3⟩ := hrc d' V1 (dv_and p (dv_xor (dv_shl 1 (j : Int)) (-1))) (q + 1) (k + pr j r) rfl hx1 (fun c hc g => hP c hc ((cS c hc).mp g).1) (by have := cnt_off (p := p) (j := (j : Int)) (by omega) (by omega) (by rw [Int.toNat_natCast]; exact e2); omega) (by omega) (by omega) (by rw [v41, T3]; exact oq_b (by omega))
  have cC : ∀ px py, 0 ≤ px → px < w → 0 ≤ py → py < h → (cw a V1 px py ↔ nxC sd w h (cw a W) j px py) := fun px py a0 a1 b0 b1 => by
    have k1 := t_cov (W := T) (U := U) (a := a) (s := sd j) (x := r % 12) (y := r / 12) s1 (by omega) (by omega) (by omega) (by omega) (fun px py a0 a1 b0 b1 hcc => pl.2.2 px py a0 a1 b0 b1 (by
      unfold cw at hcc ⊢
      rw [← T2 py (by omega) (by omega) px.toNat (by omega)]
      exact hcc)) u3 px py a0 (by omega) b0 (by omega)
    have k2 : cw a V1 px py ↔ cw a U px py := by unfold cw; rw [v29]
    rw [k2, k1]
    unfold nxC cvs
    rw [er]
    have k3 : cw a T px py ↔ cw a W px py := by unfold cw; rw [T2 py b0 (by omega) px.toNat (by omega)]
    rw [k3]
  rw [sN_c w12 cC cS] at g3
  have s2 : W2 a 2 (29 + (j : Int)) = sd j := by
    rw [gf_m g1 (by decide)]; exact hx1.1.2.1 j (by omega)
  obtain ⟨U3, t4, t5, t6⟩ := q_turns (V := W2) (a := a) (s := sd j) (x := r % 12) (y := r / 12) (by omega)
  rw [dv_bn2 g0, bq, bq, s2, dv_bn2 t4, bq]
  refine ⟨_, rfl, ⟨j + 1, U3, by rw [Int.natCast_succ], by omega, gf_t (gf_t T1 F1) (gf_t g1 (gf_29 t5)), fun py p0 p1 i hi => ?_, ?_⟩, by dsimp only; omega⟩
  · have k1 := t_back (W := T) (U := U) (U2 := W2) (U3 := U3) (a := a) (s := sd j) (x := r % 12) (y := r / 12) u3 (fun py p0 p1 i hi => by rw [g2 py p0 p1 i hi, v29]) t6 py p0 p1 i hi
    rw [k1]; exact T2 py p0 p1 i hi
  · show _ = oq (W a 41 0) (qs _ j + ip (okc sd pr noag w h (cw a W) (lfs p) j) * sN sd pr noag w h n d' (nxC sd w h (cw a W) j) (wo1 (lfs p) j))
    have hN := (sN_b (sd := sd) (pr := pr) (ag := noag) (w := w) (h := h) (d := d') (C := nxC sd w h (cw a W) j) (S := wo1 (lfs p) j) n9).1
    rw [ip_1 ok, Int.one_mul, t5 a 41 0 (fun g => absurd g.2 (by decide)), g3, v41, T3]
    exact oq_s (by omega) (hsum j) hN
theorem o_goes {P : Nat → Prop} (hs : rs n sd pr w h) : ∀ (d : Nat) (W : dV) (p q k : Int), rx1 a W P n sd pr w h → (∀ c, c < n → lfs p c → P c) → cnt p ≤ d → 0 ≤ q → (0 ≤ k ∧ k + 99 * (d : Int) ≤ 1000000) → (0 ≤ W a 41 0 ∧ W a 41 0 ≤ 1) → ∃ W' : dV, f_X12_goesOn d W a p q k = (W', 0) ∧ oQ a W W' (sN sd pr noag w h n d (cw a W) (lfs p)) := by
  intro d
  induction d with
  | zero => exact fun W p q k hx hP hc q0 hk h41 => o_goesB (rc := fun _ _ _ _ _ => dv_z) hs (fun d' W p q k e => absurd e (by omega)) hx hP hc q0 hk h41
  | succ d ih => exact fun W p q k hx hP hc q0 hk h41 => o_goesB (rc := f_X12_goesOn d) hs (fun d' W1 p1 q1 k1 e y1 y2 y3 y4 y5 y6 => by
      have e2 : d' = d := by omega
      subst e2
      exact ih W1 p1 q1 k1 y1 y2 y3 y4 y5 y6) hx hP hc q0 hk h41
end QVX
section QVY
variable {V V' W W' W1 U T : dV} {a p q k x y s w h z ar i r t v N : Int} {A : Nat → Int} {n c d m j : Nat} {sd : Nat → Int} {pr pr' : Nat → Int → Int} {φ : Nat → Int → Int}
/-- what canFill changes -/
def hf9 (a : Int) (W W' : dV) : Prop := ∀ b m z, ¬ (b = a ∧ (m = 29 ∨ (35 ≤ m ∧ m ≤ 37) ∨ (39 ≤ m ∧ m ≤ 43))) → W' b m z = W b m z
theorem hf9_t (h : hf9 a W W') (g : hf9 a W' W1) : hf9 a W W1 := fun b m z q => (g b m z q).trans (h b m z q)
theorem hf9_g (f : gf a W W') : hf9 a W W' := fun b m z q => f b m z (fun e => q ⟨e.1, by have := e.2; omega⟩)
theorem hf9_u {m : Nat} (hm : m = 29 ∨ (35 ≤ m ∧ m ≤ 37) ∨ (39 ≤ m ∧ m ≤ 43)) : hf9 a W (dv_u W a m z v) := fun b m' z' q => ub_n (fun e => q ⟨e.1, by rw [e.2]; exact hm⟩)
theorem oq_0 : oq 0 N = if 0 < N then 1 else 0 := by
  unfold oq
  rw [if_neg (by decide)]
/-- whether a hall so wide, so high can be filled -/
theorem o_can {P : Nat → Prop} (hs : rs n sd pr w h) (hx : (T a 2 69 = (n : Int) ∧ (∀ c : Nat, c < n → T a 2 (29 + (c : Int)) = sd c) ∧ (∀ (c : Nat) (z : Int), c < n → P c → 0 ≤ z → z < 144 → T a 34 (144 * (c : Int) + z) = pr c z)) ∧ T a 44 0 = 0 ∧ T a 45 0 = 1) (hP : ∀ c, c < n → lfs p c → P c) : ∃ U : dV, f_X12_canFill T a p w h = (U, if 0 < sN sd pr noag w h n 9 (fun _ _ => False) (lfs p) then 1 else 0) ∧ hf9 a T U := by
  unfold f_X12_canFill
  refine dv_inv (b := f_X12_canFill_3b) (P := fun s => ∃ (U : dV) (j : Int), s = (U, a, p, w, h, j) ∧ 0 ≤ j ∧ j ≤ 12 ∧ (∀ b m z, ¬ (b = a ∧ m = 29) → U b m z = T b m z) ∧ ∀ z, 0 ≤ z → z < j → U a 29 z = 0) (Q := fun r => ∃ U : dV, r = (U, if 0 < sN sd pr noag w h n 9 (fun _ _ => False) (lfs p) then 1 else 0) ∧ hf9 a T U) (m := fun s => (12 - s.2.2.2.2.2).toNat) ?_ _ ⟨T, 0, rfl, by decide, by decide, fun _ _ _ _ => rfl, fun z z0 z1 => absurd z1 (by omega)⟩
  rintro s ⟨U, j, rfl, j0, j1, hU, hz⟩
  rw [f_X12_canFill_3e]
  unfold f_X12_canFill_3c
  by_cases e : 12 ≤ j
  · obtain ⟨T5, h5⟩ : ∃ T5, dv_u (dv_u (dv_u (dv_u (dv_u U a 39 0 w) a 40 0 h) a 41 0 0) a 42 0 0) a 43 0 1000000 = T5 := ⟨_, rfl⟩
    have k : ∀ (m : Nat) (z : Int), ¬ (39 ≤ m ∧ m ≤ 43) → T5 a m z = U a m z := fun m z q2 => by
      rw [← h5, ub_n (fun g => q2 (by rw [g.2]; decide)), ub_n (fun g => q2 (by rw [g.2]; decide)), ub_n (fun g => q2 (by rw [g.2]; decide)), ub_n (fun g => q2 (by rw [g.2]; decide)), ub_n (fun g => q2 (by rw [g.2]; decide))]
    have k2 : ∀ (m : Nat) (z : Int), ¬ (39 ≤ m ∧ m ≤ 43) → m ≠ 29 → T5 a m z = T a m z := fun m z q2 q1 => (k m z q2).trans (hU a m z (fun g => q1 g.2))
    have x39 : T5 a 39 0 = w := by rw [← h5, ub_n (fun g => absurd g.2 (by decide)), ub_n (fun g => absurd g.2 (by decide)), ub_n (fun g => absurd g.2 (by decide)), ub_n (fun g => absurd g.2 (by decide)), ub_e]
    have x40 : T5 a 40 0 = h := by rw [← h5, ub_n (fun g => absurd g.2 (by decide)), ub_n (fun g => absurd g.2 (by decide)), ub_n (fun g => absurd g.2 (by decide)), ub_e]
    have x41 : T5 a 41 0 = 0 := by rw [← h5, ub_n (fun g => absurd g.2 (by decide)), ub_n (fun g => absurd g.2 (by decide)), ub_e]
    have f5 : hf9 a U T5 := by
      rw [← h5]
      exact hf9_t (hf9_t (hf9_t (hf9_t (hf9_u (by omega)) (hf9_u (by omega))) (hf9_u (by omega))) (hf9_u (by omega))) (hf9_u (by omega))
    have hx5 : rx1 a T5 P n sd pr w h := ⟨⟨by rw [k2 2 _ (by decide) (by decide)]; exact hx.1.1, fun c hc => by rw [k2 2 _ (by decide) (by decide)]; exact hx.1.2.1 c hc, fun c z hc hp z0 z1 => by rw [k2 34 _ (by decide) (by decide)]; exact hx.1.2.2 c z hc hp z0 z1⟩, x39, x40, (k2 44 0 (by decide) (by decide)).trans hx.2.1, (k2 45 0 (by decide) (by decide)).trans hx.2.2⟩
    obtain ⟨W', g0, g1, g2, g3⟩ := o_goes hs 9 T5 p 0 0 hx5 hP cnt_9 (by decide) (by decide) (by rw [x41]; decide)
    have h12 := hs.2.2.1.2
    have cC : ∀ px py, 0 ≤ px → px < w → 0 ≤ py → py < h → (cw a T5 px py ↔ (fun _ _ => False : Int → Int → Prop) px py) := fun px py a0 a1 b0 b1 => by
      unfold cw
      rw [k 29 py (by decide), hz py b0 (by omega), qb_0]
      exact ⟨fun g => absurd g (by decide), fun g => g.elim⟩
    rw [sN_c hs.2.1.2 cC (fun _ _ => Iff.rfl), x41, oq_0] at g3
    have ht : f_X12_goesThrough U a p w h = (W', 0) := by
      unfold f_X12_goesThrough
      rw [bq, bq, bq, bq, bq, h5, dv_bn2 g0]
    have F : hf9 a T W' := hf9_t (hf9_t (fun b m z q => hU b m z (fun g => q ⟨g.1, Or.inl g.2⟩)) f5) (hf9_g g1)
    rw [if_pos e, dv_bn2 ht, bq, g3]
    by_cases e2 : 0 < sN sd pr noag w h n 9 (fun _ _ => False) (lfs p)
    · rw [if_pos e2, if_neg (by decide)]
      exact Or.inr ⟨_, rfl, W', rfl, F⟩
    · rw [if_neg e2, if_pos (by decide)]
      exact Or.inr ⟨_, rfl, W', rfl, F⟩
  · rw [if_neg e, bq, bq]
    refine Or.inl ⟨_, rfl, ⟨_, j + 1, rfl, by omega, by omega, fun b m z g => ?_, fun z z0 z1 => ?_⟩, by dsimp only; omega⟩
    · rw [ub_n g]
      exact hU b m z g
    · unfold dv_u
      by_cases g : z = j
      · rw [if_pos ⟨rfl, rfl, g⟩]
      · rw [if_neg (fun q => g q.2.2)]
        exact hz z z0 (by omega)
/-- the ways to fill an empty hall with all that are no rags -/
noncomputable def hN (φ : Nat → Int → Int) (pr : Nat → Int → Int) (w h : Int) : Int := sN (fun c => φ 0 (c : Int)) pr noag w h (φ 7 0).toNat 9 (fun _ _ => False) (fun c => 0 < φ 2 (c : Int))
noncomputable def hAr (φ : Nat → Int → Int) : Int := qs (fun c => ip (0 < φ 2 (c : Int)) * (φ 0 (c : Int) * φ 0 (c : Int))) (φ 7 0).toNat
def hcO (φ : Nat → Int → Int) (pr : Nat → Int → Int) (ar w : Int) : Prop := ar = w * (ar / w) ∧ (1 ≤ ar / w ∧ ar / w ≤ 12) ∧ 0 < hN φ pr w (ar / w)
/-- which halls can be filled: the i-th, how many -/
noncomputable def hA (φ : Nat → Int → Int) (pr : Nat → Int → Int) (ar i : Int) : Nat → Int → Int → Int
  | 0, _, n => if i = -1 then n else -1
  | s + 1, w, n => @ite Int (hcO φ pr ar w) (Classical.propDecidable _) (if n = i then 100 * w + ar / w else hA φ pr ar i s (w + 1) (n + 1)) (hA φ pr ar i s (w + 1) n)
theorem hA_no (g : ¬ hcO φ pr ar w) : hA φ pr ar i (m + 1) w x = hA φ pr ar i m (w + 1) x := by
  show @ite Int (hcO φ pr ar w) (Classical.propDecidable _) _ _ = _
  rw [if_neg g]
theorem hA_hit (g : hcO φ pr ar w) (e : x = i) : hA φ pr ar i (m + 1) w x = 100 * w + ar / w := by
  show @ite Int (hcO φ pr ar w) (Classical.propDecidable _) _ _ = _
  rw [if_pos g, if_pos e]
theorem hA_yes (g : hcO φ pr ar w) (e : x ≠ i) : hA φ pr ar i (m + 1) w x = hA φ pr ar i m (w + 1) (x + 1) := by
  show @ite Int (hcO φ pr ar w) (Classical.propDecidable _) _ _ = _
  rw [if_pos g, if_neg e]
theorem hA_0 (w1 : 1 ≤ w) : hA φ pr 0 i m w x = if i = -1 then x else -1 := by
  induction m generalizing w with
  | zero => rfl
  | succ m ih =>
    rw [hA_no (fun g => by
      have h1 := g.2.1.1
      rw [Int.zero_ediv] at h1
      omega)]
    exact ih (by omega)
theorem hN_p (hk : fb φ) (w12 : w ≤ 12) (h12 : h ≤ 12) (hp : ∀ c z, c < (φ 7 0).toNat → 0 ≤ z → z < 144 → pr c z = pr' c z) : hN φ pr w h = hN φ pr' w h := sN_p w12 h12 (fun c z hc z0 z1 => ⟨hp c z hc z0 z1, Iff.rfl⟩)
theorem hcO_p (hk : fb φ) (w12 : w ≤ 12) (hp : ∀ c z, c < (φ 7 0).toNat → 0 ≤ z → z < 144 → pr c z = pr' c z) : hcO φ pr ar w ↔ hcO φ pr' ar w := by
  unfold hcO
  constructor
  · rintro ⟨g1, g2, g3⟩
    exact ⟨g1, g2, by rw [← hN_p hk w12 g2.2 hp]; exact g3⟩
  · rintro ⟨g1, g2, g3⟩
    exact ⟨g1, g2, by rw [hN_p hk w12 g2.2 hp]; exact g3⟩
theorem hA_p (hk : fb φ) (hw : w + (m : Int) ≤ 13) (hp : ∀ c z, c < (φ 7 0).toNat → 0 ≤ z → z < 144 → pr c z = pr' c z) : hA φ pr ar i m w x = hA φ pr' ar i m w x := by
  induction m generalizing w x with
  | zero => rfl
  | succ m ih =>
    have e := hcO_p (φ := φ) (ar := ar) (w := w) hk (by omega) hp
    by_cases g : hcO φ pr ar w
    · by_cases g2 : x = i
      · rw [hA_hit g g2, hA_hit (e.mp g) g2]
      · rw [hA_yes g g2, hA_yes (e.mp g) g2]
        exact ih (by omega)
    · rw [hA_no g, hA_no (fun q => g (e.mpr q))]
      exact ih (by omega)
/-- the reference's halls -/
theorem M_halls (h : RR A a V W) : ∃ W' : dV, f_X12_halls W a p = (W', if -1 ≤ p then hA (V (A 4)) (prW W a) (hAr (V (A 4))) p 12 1 0 else -1) := by
  unfold f_X12_halls
  by_cases e : -1 ≤ p
  case neg => rw [if_neg e, if_neg e]; exact ⟨W, rfl⟩
  rw [if_pos e, if_pos e]
  obtain ⟨kk, e7, -, -, -, -, -, -, ec⟩ := RR_n h
  obtain ⟨lx, hl, hj0⟩ := JX_jd (RR_JX h)
  have k7 := kk.1.1
  have hn : W a 2 69 = (((V (A 4) 7 0).toNat : Nat) : Int) := by omega
  generalize hnn : (V (A 4) 7 0).toNat = n at hn
  have n9 : n ≤ 9 := by omega
  have sq : ∀ c : Nat, c < n → 0 ≤ V (A 4) 0 (c : Int) * V (A 4) 0 (c : Int) ∧ V (A 4) 0 (c : Int) * V (A 4) 0 (c : Int) ≤ 144 := fun c hc => by
    have b := (kk.1.2.2.2 (c : Int) (by omega) (by omega)).1
    exact qm_b b.1 b.2 b.1 b.2
  have aB : ∀ j : Nat, j ≤ n → 0 ≤ qs (fun c => ip (0 < V (A 4) 2 (c : Int)) * (V (A 4) 0 (c : Int) * V (A 4) 0 (c : Int))) j ∧ qs (fun c => ip (0 < V (A 4) 2 (c : Int)) * (V (A 4) 0 (c : Int) * V (A 4) 0 (c : Int))) j ≤ 144 * j := fun j hj => qs_b (fun c hc => by
    have := sq c (by omega)
    try dsimp only
    by_cases g : 0 < V (A 4) 2 (c : Int)
    · rw [ip_1 g, Int.one_mul]; exact this
    · rw [ip_0 g, Int.zero_mul]; omega)
  refine dv_inv (b := f_X12_halls_14b) (P := fun s => ∃ (x : Int) (j : Nat), s = (W, a, p, x, qs (fun c => ip (0 < V (A 4) 2 (c : Int)) * (V (A 4) 0 (c : Int) * V (A 4) 0 (c : Int))) j, (j : Int)) ∧ j ≤ n ∧ ∀ i : Nat, i < 32 → (qb x i = true ↔ i < j ∧ 0 < W a 2 (i : Int))) (Q := fun r => ∃ W' : dV, r = (W', hA (V (A 4)) (prW W a) (hAr (V (A 4))) p 12 1 0)) (m := fun s => (9 - s.2.2.2.2.2).toNat) ?_ _ ⟨0, 0, rfl, Nat.zero_le _, fun i hi => by rw [qb_0]; exact ⟨fun g => absurd g (by decide), fun g => absurd g.1 (by omega)⟩⟩
  rintro s ⟨x, j, rfl, jn, hb⟩
  rw [f_X12_halls_14e]
  unfold f_X12_halls_14c
  rw [dv_bn2 q_many, hn]
  by_cases e1 : (n : Int) ≤ (j : Int)
  · have ej : j = n := by omega
    subst ej
    rw [if_pos e1]
    have eAr : qs (fun c => ip (0 < V (A 4) 2 (c : Int)) * (V (A 4) 0 (c : Int) * V (A 4) 0 (c : Int))) j = hAr (V (A 4)) := by unfold hAr; rw [hnn]
    have hAr0 := aB j (Nat.le_refl _)
    rw [eAr] at hAr0 ⊢
    obtain ⟨U1, a1, b1, c1⟩ := m_prices (p := x) (n := j) (RR_JX h) hl hn n9
    rw [dv_bn2 a1, bq, bq]
    obtain ⟨T0, h0⟩ : ∃ T0, dv_u (dv_u U1 a 44 0 0) a 45 0 1 = T0 := ⟨_, rfl⟩
    rw [h0]
    have t0 : ∀ (m : Nat) (z : Int), m ≠ 44 → m ≠ 45 → T0 a m z = U1 a m z := fun m z q1 q2 => by
      rw [← h0, ub_n (fun g => q2 g.2), ub_n (fun g => q1 g.2)]
    have x44 : T0 a 44 0 = 0 := by rw [← h0, ub_n (fun g => absurd g.2 (by decide)), ub_e]
    have x45 : T0 a 45 0 = 1 := by rw [← h0, ub_e]
    have hS : ∀ c : Nat, c < j → (lfs x c ↔ 0 < V (A 4) 2 (c : Int)) := fun c hc => by
      obtain ⟨-, -, q2, -⟩ := ec (c : Int) (by omega) (by omega)
      unfold lfs
      rw [hb c (by omega), q2]
      exact ⟨fun g => g.2, fun g => ⟨hc, g⟩⟩
    have hx0 : (T0 a 2 69 = (j : Int) ∧ (∀ c : Nat, c < j → T0 a 2 (29 + (c : Int)) = V (A 4) 0 (c : Int)) ∧ (∀ (c : Nat) (z : Int), c < j → lfs x c → 0 ≤ z → z < 144 → T0 a 34 (144 * (c : Int) + z) = prW W a c z)) ∧ T0 a 44 0 = 0 ∧ T0 a 45 0 = 1 := ⟨⟨by rw [t0 2 _ (by decide) (by decide), sf_2 b1]; exact hn, fun c hc => by
      rw [t0 2 _ (by decide) (by decide), sf_2 b1]
      exact ((ec (c : Int) (by omega) (by omega)).1).symm, fun c z hc hp z0 z1 => by
      rw [t0 34 _ (by decide) (by decide), c1 c z hc hp z0 z1]
      exact (prW_b (JX_lx (RR_JX h) hl).2 (by omega) z0 z1).2⟩, x44, x45⟩
    have L : ∃ (U' : dV), dv_lp f_X12_halls_93b (T0, a, p, x, hAr (V (A 4)), 0, 1) = Sum.inr (U', hA (V (A 4)) (prW W a) (hAr (V (A 4))) p 12 1 0) := by
      refine dv_inv (b := f_X12_halls_93b) (P := fun s => ∃ (U : dV) (c : Int) (l : Nat), s = (U, a, p, x, hAr (V (A 4)), c, 13 - (l : Int)) ∧ l ≤ 12 ∧ (0 ≤ c ∧ c ≤ 12 - (l : Int)) ∧ hf9 a T0 U ∧ hA (V (A 4)) (prW W a) (hAr (V (A 4))) p l (13 - (l : Int)) c = hA (V (A 4)) (prW W a) (hAr (V (A 4))) p 12 1 0) (Q := fun r => ∃ U' : dV, r = Sum.inr (U', hA (V (A 4)) (prW W a) (hAr (V (A 4))) p 12 1 0)) (m := fun s => (13 - s.2.2.2.2.2.2).toNat) ?_ _ ⟨T0, 0, 12, rfl, by decide, by decide, fun _ _ _ _ => rfl, rfl⟩
      rintro s ⟨U, c, l, rfl, l12, hc, hU, hH⟩
      have E156 : ∀ (T : dV) (b : Int), f_X12_halls_156 T a p x (hAr (V (A 4))) (13 - (l : Int)) b = Sum.inl (T, a, p, x, hAr (V (A 4)), b, 13 - (l : Int) + 1) := fun T b => by
        unfold f_X12_halls_156
        rw [bq]
      rw [f_X12_halls_93e]
      unfold f_X12_halls_93c
      by_cases f1 : 12 < 13 - (l : Int)
      · have l0 : l = 0 := by omega
        subst l0
        rw [if_pos f1, ← hH]
        by_cases f2 : p ≠ -1
        · rw [if_pos f2]
          refine Or.inr ⟨_, rfl, U, ?_⟩
          show _ = Sum.inr (U, if p = -1 then c else -1)
          rw [if_neg f2]
        · rw [if_neg f2]
          refine Or.inr ⟨_, rfl, U, ?_⟩
          show _ = Sum.inr (U, if p = -1 then c else -1)
          rw [if_pos (Classical.byContradiction f2)]
      obtain ⟨l', rfl⟩ : ∃ l' : Nat, l = l' + 1 := ⟨l - 1, by omega⟩
      have ew : 13 - ((l' + 1 : Nat) : Int) + 1 = 13 - (l' : Int) := by omega
      have no : ∀ T, hf9 a T0 T → ¬ hcO (V (A 4)) (prW W a) (hAr (V (A 4))) (13 - ((l' + 1 : Nat) : Int)) → ∃ t, (Sum.inl (T, a, p, x, hAr (V (A 4)), c, 13 - ((l' + 1 : Nat) : Int) + 1) : Sum (dV × Int × Int × Int × Int × Int × Int) (Sum (dV × Int × Int × Int × Int × Int) dR)) = Sum.inl t ∧ (∃ (U : dV) (c : Int) (l : Nat), t = (U, a, p, x, hAr (V (A 4)), c, 13 - (l : Int)) ∧ l ≤ 12 ∧ (0 ≤ c ∧ c ≤ 12 - (l : Int)) ∧ hf9 a T0 U ∧ hA (V (A 4)) (prW W a) (hAr (V (A 4))) p l (13 - (l : Int)) c = hA (V (A 4)) (prW W a) (hAr (V (A 4))) p 12 1 0) ∧ (13 - t.2.2.2.2.2.2).toNat < (13 - (13 - ((l' + 1 : Nat) : Int))).toNat := fun T hT g => by
        rw [ew]
        refine ⟨_, rfl, ⟨T, c, l', rfl, by omega, by omega, hT, ?_⟩, by dsimp only; omega⟩
        rw [hA_no g, ew] at hH
        exact hH
      rw [if_neg f1, bq, bq]
      generalize hw : 13 - ((l' + 1 : Nat) : Int) = w at *
      have w1 : 1 ≤ w ∧ w ≤ 12 := by omega
      by_cases f2 : hAr (V (A 4)) ≠ w * (hAr (V (A 4)) / w)
      · rw [if_pos f2, E156]
        exact Or.inl (no U hU (fun g => f2 g.1))
      rw [if_neg f2, dv_bn2 q_isSide]
      by_cases f3 : 1 ≤ hAr (V (A 4)) / w ∧ hAr (V (A 4)) / w ≤ 12
      case neg =>
        rw [if_neg f3, if_pos rfl, E156]
        exact Or.inl (no U hU (fun g => f3 g.2.1))
      rw [if_pos f3, if_neg (by decide)]
      have hs : rs j (fun c => V (A 4) 0 (c : Int)) (prW W a) w (hAr (V (A 4)) / w) := by
        have r4 := rs_4 h
        rw [hnn] at r4
        exact ⟨r4.1, by omega, by omega, r4.2.2.2.1, r4.2.2.2.2⟩
      have hxU : (U a 2 69 = (j : Int) ∧ (∀ c : Nat, c < j → U a 2 (29 + (c : Int)) = V (A 4) 0 (c : Int)) ∧ (∀ (c : Nat) (z : Int), c < j → lfs x c → 0 ≤ z → z < 144 → U a 34 (144 * (c : Int) + z) = prW W a c z)) ∧ U a 44 0 = 0 ∧ U a 45 0 = 1 := by
        have u : ∀ (m : Nat) (z : Int), ¬ (m = 29 ∨ (35 ≤ m ∧ m ≤ 37) ∨ (39 ≤ m ∧ m ≤ 43)) → U a m z = T0 a m z := fun m z q => hU a m z (fun g => q g.2)
        refine ⟨⟨?_, fun c hc => ?_, fun c z hc hp z0 z1 => ?_⟩, ?_, ?_⟩
        · rw [u 2 _ (by decide)]; exact hx0.1.1
        · rw [u 2 _ (by decide)]; exact hx0.1.2.1 c hc
        · rw [u 34 _ (by decide)]; exact hx0.1.2.2 c z hc hp z0 z1
        · rw [u 44 _ (by decide)]; exact x44
        · rw [u 45 _ (by decide)]; exact x45
      obtain ⟨U2, q1, q2⟩ := o_can (p := x) hs hxU (fun c hc g => g)
      have eN : sN (fun c => V (A 4) 0 (c : Int)) (prW W a) noag w (hAr (V (A 4)) / w) j 9 (fun _ _ => False) (lfs x) = hN (V (A 4)) (prW W a) w (hAr (V (A 4)) / w) := by
        unfold hN
        rw [hnn]
        exact sN_c w1.2 (fun _ _ _ _ _ _ => Iff.rfl) hS
      rw [eN] at q1
      rw [dv_bn2 q1]
      have hU2 := hf9_t hU q2
      by_cases f4 : 0 < hN (V (A 4)) (prW W a) w (hAr (V (A 4)) / w)
      case neg =>
        rw [if_neg f4, if_neg (by decide), E156]
        exact Or.inl (no U2 hU2 (fun g => f4 g.2.2))
      have yes : hcO (V (A 4)) (prW W a) (hAr (V (A 4))) w := ⟨Classical.byContradiction f2, f3, f4⟩
      rw [if_pos f4, if_pos (by decide)]
      by_cases f5 : c ≠ p
      · rw [if_pos f5, bq, dv_add_ok (by omega) (by omega) (by omega) (by omega) (by decide) (by decide), E156]
        refine Or.inl ⟨_, rfl, ⟨U2, c + 1, l', by rw [ew], by omega, by omega, hU2, ?_⟩, by dsimp only; omega⟩
        rw [hA_yes yes f5, ew] at hH
        exact hH
      · rw [if_neg f5, bq, bq]
        refine Or.inr ⟨_, rfl, U2, ?_⟩
        rw [← hH, hA_hit yes (Classical.byContradiction f5)]
    obtain ⟨U', hL⟩ := L
    rw [hL]
    exact Or.inr ⟨_, rfl, U', rfl⟩
  · have E66 : ∀ b2 b3 : Int, f_X12_halls_66 W a p (j : Int) b2 b3 = Sum.inl (W, a, p, b2, b3, (j : Int) + 1) := fun b2 b3 => by
      unfold f_X12_halls_66
      rw [bq]
    obtain ⟨q0, -, q2, -⟩ := ec (j : Int) (by omega) (by omega)
    have aj := aB j jn
    have sj := sq j (by omega)
    rw [if_neg e1, dv_bn2 q_mWhole]
    by_cases e2 : 0 < W a 2 (j : Int)
    · rw [if_pos e2, if_pos (by decide), bq, bq, bq, bq, bq, bq, bq, bq, E66, ← q0]
      refine Or.inl ⟨_, rfl, ⟨dv_or x (dv_shl 1 (j : Int)), j + 1, ?_, by omega, fun i hi => ?_⟩, by dsimp only; omega⟩
      · show _ = (W, a, p, dv_or x (dv_shl 1 (j : Int)), qs _ j + ip (0 < V (A 4) 2 (j : Int)) * (V (A 4) 0 (j : Int) * V (A 4) 0 (j : Int)), ((j + 1 : Nat) : Int))
        rw [ip_1 (by rw [q2]; exact e2), Int.one_mul, Int.natCast_succ]
      · have h1 := qb_s1 ⟨j, by omega⟩ ⟨i, hi⟩
        try simp only at h1
        rw [qb_or, Bool.or_eq_true, hb i hi, h1]
        constructor
        · rintro (⟨a1, a2⟩ | g)
          · exact ⟨by omega, a2⟩
          · have ei : i = j := by simpa using g
            subst ei
            exact ⟨by omega, e2⟩
        · rintro ⟨a1, a2⟩
          by_cases ei : i = j
          · right; simpa using ei
          · left; exact ⟨by omega, a2⟩
    · rw [if_neg e2, if_neg (by decide), E66]
      refine Or.inl ⟨_, rfl, ⟨x, j + 1, ?_, by omega, fun i hi => ?_⟩, by dsimp only; omega⟩
      · show _ = (W, a, p, x, qs _ j + ip (0 < V (A 4) 2 (j : Int)) * (V (A 4) 0 (j : Int) * V (A 4) 0 (j : Int)), ((j + 1 : Nat) : Int))
        rw [ip_0 (by rw [q2]; exact e2), Int.zero_mul, Int.add_zero, Int.natCast_succ]
      · rw [hb i hi]
        constructor
        · rintro ⟨a1, a2⟩; exact ⟨by omega, a2⟩
        · rintro ⟨a1, a2⟩
          refine ⟨?_, a2⟩
          by_cases ei : i = j
          · subst ei; exact absurd a2 e2
          · omega
end QVY
section QVZ
variable {C C' : Int → Int → Prop} {S S' : Nat → Prop} {w h : Int} {n c d m : Nat} {sd sd' : Nat → Int} {pr pr' : Nat → Int → Int} {ag : Nat → Int → Prop} {f : Nat → Option (List Nat)} {l : List Nat}
-- sides that are the same
theorem okc_d (e : sd c = sd' c) : okc sd pr ag w h C S c ↔ okc sd' pr ag w h C S c := by
  unfold okc
  rw [e]
theorem nxC_d (e : sd c = sd' c) : nxC sd w h C c = nxC sd' w h C c := by
  unfold nxC
  rw [e]
theorem sN_d (hd : ∀ c, c < n → sd c = sd' c) : sN sd pr ag w h n d C S = sN sd' pr ag w h n d C S := by
  induction d generalizing C S with
  | zero => rfl
  | succ d ih =>
    by_cases f : ful C w h
    · rw [sN_f f, sN_f f]
    · rw [sN_s f, sN_s f]
      refine qs_c (fun c hc => ?_)
      rw [ip_c (okc_d (hd c hc)), nxC_d (hd c hc), ih]
theorem sF_d (hd : ∀ c, c < n → sd c = sd' c) : sF sd pr ag w h n d C S = sF sd' pr ag w h n d C S := by
  induction d generalizing C S with
  | zero => rfl
  | succ d ih =>
    by_cases f : ful C w h
    · rw [sF_f f, sF_f f]
    · rw [sF_s f, sF_s f]
      refine foS_c (fun c hc => ?_)
      have k := okc_d (sd := sd) (sd' := sd') (pr := pr) (ag := ag) (w := w) (h := h) (C := C) (S := S) (hd c hc)
      by_cases g : okc sd pr ag w h C S c
      · rw [if_pos g, if_pos (k.mp g), nxC_d (hd c hc), ih]
      · rw [if_neg g, if_neg (fun q => g (k.mpr q))]
theorem foS_one (hn : ∀ k, k < n → k ≠ c → f k = none) (hc : c < n) (e : f c = some l) : foS f n = some l := by
  induction n with
  | zero => omega
  | succ n ih =>
    unfold foS
    by_cases g : c = n
    · subst g
      have k : foS f c = none := foS_n.mpr (fun i hi => hn i (by omega) (by omega))
      rw [k]
      exact e
    · rw [ih (fun k hk => hn k (by omega)) (by omega)]
theorem foS_some (e : foS f n = some l) : ∃ m, m < n ∧ f m = some l := by
  induction n with
  | zero => exact absurd e (by unfold foS; exact fun q => by cases q)
  | succ n ih =>
    unfold foS at e
    cases g : foS f n with
    | some l' =>
      rw [g] at e
      simp only at e
      obtain ⟨m, m1, m2⟩ := ih (by rw [g]; exact e)
      exact ⟨m, by omega, m2⟩
    | none =>
      rw [g] at e
      exact ⟨n, by omega, e⟩
theorem sF_nil (e : sF sd pr ag w h n d C S = some []) : ful C w h := by
  refine Classical.byContradiction (fun f => ?_)
  cases d with
  | zero => rw [sF_0 f] at e; cases e
  | succ d =>
    rw [sF_s f] at e
    obtain ⟨m, m1, m2⟩ := foS_some e
    by_cases g : okc sd pr ag w h C S m
    · rw [if_pos g] at m2
      cases k : sF sd pr ag w h n d (nxC sd w h C m) (wo1 S m) with
      | none => rw [k] at m2; cases m2
      | some l => rw [k] at m2; cases m2
    · rw [if_neg g] at m2; cases m2
/-- of one way alone: it is the carpet c by itself -/
theorem al_F (n9 : n ≤ 9) (nf : ¬ ful C w h) (hN : sN sd pr ag w h n (d + 1) C S = 1) (hc : c < n) : sF sd pr ag w h n (d + 1) C S = some [c] ↔ okc sd pr ag w h C S c ∧ ful (nxC sd w h C c) w h := by
  rw [sF_s nf]
  rw [sN_s nf] at hN
  have nn : ∀ k, k < n → 0 ≤ ip (okc sd pr ag w h C S k) * sN sd pr ag w h n d (nxC sd w h C k) (wo1 S k) := fun k _ => Int.mul_nonneg ip_b.1 (sN_b n9).1
  constructor
  · intro e
    obtain ⟨m, m1, m2⟩ := foS_some e
    by_cases g : okc sd pr ag w h C S m
    · rw [if_pos g] at m2
      cases k : sF sd pr ag w h n d (nxC sd w h C m) (wo1 S m) with
      | none => rw [k] at m2; cases m2
      | some l =>
        rw [k] at m2
        have e2 : m :: l = [c] := Option.some.inj m2
        obtain ⟨e3, e4⟩ := List.cons.inj e2
        subst e3
        subst e4
        exact ⟨g, sF_nil k⟩
    · rw [if_neg g] at m2; cases m2
  · rintro ⟨g, hf⟩
    have t1 : ip (okc sd pr ag w h C S c) * sN sd pr ag w h n d (nxC sd w h C c) (wo1 S c) = 1 := by rw [ip_1 g, sN_f hf]; rfl
    refine foS_one (c := c) (fun k hk hne => ?_) hc (by rw [if_pos g, sF_f hf]; rfl)
    by_cases gk : okc sd pr ag w h C S k
    · rw [if_pos gk]
      refine Option.map_eq_none_iff.mpr ((sF_N n9).mpr ?_)
      have h0 := (sN_b (sd := sd) (pr := pr) (ag := ag) (w := w) (h := h) (d := d) (C := nxC sd w h C k) (S := wo1 S k) n9).1
      have two : ∀ m : Nat, m ≤ n → (c < m → 1 ≤ qs (fun c => ip (okc sd pr ag w h C S c) * sN sd pr ag w h n d (nxC sd w h C c) (wo1 S c)) m) ∧ (k < m → sN sd pr ag w h n d (nxC sd w h C k) (wo1 S k) ≤ qs (fun c => ip (okc sd pr ag w h C S c) * sN sd pr ag w h n d (nxC sd w h C c) (wo1 S c)) m) ∧ (c < m → k < m → 1 + sN sd pr ag w h n d (nxC sd w h C k) (wo1 S k) ≤ qs (fun c => ip (okc sd pr ag w h C S c) * sN sd pr ag w h n d (nxC sd w h C c) (wo1 S c)) m) := by
        intro m
        induction m with
        | zero => exact fun _ => ⟨fun q => by omega, fun q => by omega, fun q => by omega⟩
        | succ m ih =>
          intro hm
          obtain ⟨i1, i2, i3⟩ := ih (by omega)
          have e : qs (fun c => ip (okc sd pr ag w h C S c) * sN sd pr ag w h n d (nxC sd w h C c) (wo1 S c)) (m + 1) = qs (fun c => ip (okc sd pr ag w h C S c) * sN sd pr ag w h n d (nxC sd w h C c) (wo1 S c)) m + ip (okc sd pr ag w h C S m) * sN sd pr ag w h n d (nxC sd w h C m) (wo1 S m) := rfl
          have nm := nn m (by omega)
          have qm := (qs_le (f := fun _ => (0 : Int)) (g := fun c => ip (okc sd pr ag w h C S c) * sN sd pr ag w h n d (nxC sd w h C c) (wo1 S c)) (n := m) (fun i hi => nn i (by omega)))
          rw [qs_z0] at qm
          rw [e]
          generalize qs (fun c => ip (okc sd pr ag w h C S c) * sN sd pr ag w h n d (nxC sd w h C c) (wo1 S c)) m = Q at *
          by_cases em : c = m
          · subst em
            rw [t1]
            exact ⟨fun _ => by omega, fun q => by have := i2 (by omega); omega, fun _ q => by have := i2 (by omega); omega⟩
          · by_cases ek : k = m
            · subst ek
              have tk : ip (okc sd pr ag w h C S k) * sN sd pr ag w h n d (nxC sd w h C k) (wo1 S k) = sN sd pr ag w h n d (nxC sd w h C k) (wo1 S k) := by rw [ip_1 gk, Int.one_mul]
              rw [tk]
              exact ⟨fun q => by have := i1 (by omega); omega, fun _ => by omega, fun q _ => by have := i1 (by omega); omega⟩
            · exact ⟨fun q => by have := i1 (by omega); omega, fun q => by have := i2 (by omega); omega, fun q q' => by have := i3 (by omega) (by omega); omega⟩
      have := (two n (Nat.le_refl _)).2.2 hc hk
      omega
    · rw [if_neg gk]
/-- bits of those of which it is so -/
noncomputable def frB (P : Nat → Prop) : Nat → Int
  | 0 => 0
  | m + 1 => @ite Int (P m) (Classical.propDecidable _) (dv_or (frB P m) (dv_shl 1 (m : Int))) (frB P m)
theorem frB_1 {P : Nat → Prop} (g : P m) : frB P (m + 1) = dv_or (frB P m) (dv_shl 1 (m : Int)) := by
  show @ite Int (P m) (Classical.propDecidable _) _ _ = _
  rw [if_pos g]
theorem frB_0 {P : Nat → Prop} (g : ¬ P m) : frB P (m + 1) = frB P m := by
  show @ite Int (P m) (Classical.propDecidable _) _ _ = _
  rw [if_neg g]
theorem frB_i {P : Nat → Prop} : ∃ y : Int32, frB P m = y.toInt := by
  induction m with
  | zero => exact ⟨0, rfl⟩
  | succ m ih =>
    by_cases g : P m
    · rw [frB_1 g]; exact ⟨_, rfl⟩
    · rw [frB_0 g]; exact ih
theorem frB_or {P : Nat → Prop} : dv_or (frB P m) 0 = frB P m := by
  obtain ⟨y, hy⟩ := frB_i (P := P) (m := m)
  rw [hy]
  unfold dv_or
  rw [Int32.ofInt_toInt, show Int32.ofInt 0 = 0 from rfl]
  have e : y ||| 0 = y := Int32.toBitVec_inj.mp (by rw [Int32.toBitVec_or]; simp)
  rw [e]
theorem frB_c {P Q : Nat → Prop} (e : ∀ i, i < m → (P i ↔ Q i)) : frB P m = frB Q m := by
  induction m with
  | zero => rfl
  | succ m ih =>
    have i := ih (fun i hi => e i (by omega))
    by_cases g : P m
    · rw [frB_1 g, frB_1 ((e m (by omega)).mp g), i]
    · rw [frB_0 g, frB_0 (fun q => g ((e m (by omega)).mpr q)), i]
end QVZ
end
