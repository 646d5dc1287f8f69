section TH
/-- the value in slot i of the cell a -/
def th_sl (H : Heap) (a i : Nat) : Value := ((H[a]?).bind (fun c => c.slots[i]?)).getD .null
def th_ln (H : Heap) (a : Nat) : Nat := ((H[a]?).map (fun c => c.slots.size)).getD 0
/-- what a value must be: an int, a long of a range; a reference to a role; null or one; a reference to a role that the cell a owns; anything -/
def th_sat (Γ : th_Ga) (a : Nat) (q : th_sp) (v : Value) : Prop := match q.1 with
  | 0 => ∃ x : Int32, v = .int x ∧ q.2.1 ≤ x.toInt ∧ x.toInt ≤ q.2.2
  | 1 => ∃ x : Int64, v = .long x ∧ q.2.1 ≤ x.toInt ∧ x.toInt ≤ q.2.2
  | 2 => ∃ b : Nat, v = .ref b ∧ Γ b = (q.2.1.toNat, 0)
  | 3 => v = .null ∨ ∃ b : Nat, v = .ref b ∧ Γ b = (q.2.1.toNat, 0)
  | 4 => ∃ b : Nat, v = .ref b ∧ Γ b = (q.2.1.toNat, a)
  | _ => True
/-- the cell a is as its role says -/
def th_ok (G : th_G) (Γ : th_Ga) (H : Heap) (a : Nat) (d : th_De) : Prop := match d with
  | .inl (k, fs) => t_OB a (G.1.1 k) fs.length (G.1.2 k) H (fun j => th_sl H a (G.1.2 k j)) ∧ ∀ (j : Nat) (q : th_sp), fs[j]? = some q → th_sat Γ a q (th_sl H a (G.1.2 k j))
  | .inr (t, n1, n2, es) => ∃ n : Nat, n1 ≤ n ∧ n ≤ n2 ∧ H[a]? = some (arrV (G.2.1 t) n (th_sl H a)) ∧ ∀ i : Nat, i < n → th_sat Γ a (es i) (th_sl H a i)
def th_I (G : th_G) (Γ : th_Ga) (H : Heap) : Prop := ∀ (a r o : Nat) (d : th_De), Γ a = (r, o) → th_ro r = some d → G.2.2 ≤ a ∧ th_ok G Γ H a d
def th_in (L : List (Nat × Nat)) (r j : Nat) : Bool := L.contains (r, j)
/-- from H to H1 nothing has changed of what Γ names but the fields and arrays of L -/
def th_F (G : th_G) (Γ : th_Ga) (L : List (Nat × Nat)) (H H1 : Heap) : Prop := H.size ≤ H1.size ∧ ∀ (a r o : Nat) (d : th_De), Γ a = (r, o) → th_ro r = some d → th_ln H1 a = th_ln H a ∧ (match d with
  | .inl (k, fs) => ∀ j : Nat, j < fs.length → th_in L r j = false → th_sl H1 a (G.1.2 k j) = th_sl H a (G.1.2 k j)
  | .inr _ => th_in L r 0 = false → ∀ i : Nat, th_sl H1 a i = th_sl H a i)
theorem th_sl_at {H : Heap} {a i : Nat} {cell : Cell} {v : Value} (hc : H[a]? = some cell) (hv : cell.slots[i]? = some v) : th_sl H a i = v := by
  unfold th_sl; rw [hc]; simp [hv]
theorem th_sl_kept {H H1 : Heap} {a : Nat} (e : H1[a]? = H[a]?) (i : Nat) : th_sl H1 a i = th_sl H a i := by
  unfold th_sl; rw [e]
theorem th_ln_kept {H H1 : Heap} {a : Nat} (e : H1[a]? = H[a]?) : th_ln H1 a = th_ln H a := by
  unfold th_ln; rw [e]
theorem th_ln_at {H : Heap} {a : Nat} {cell : Cell} (hc : H[a]? = some cell) : th_ln H a = cell.slots.size := by
  unfold th_ln; rw [hc]; rfl
theorem th_arrV {cA : ClassId} {n : Nat} {f g : Nat → Value} (h : ∀ i, i < n → f i = g i) : arrV cA n f = arrV cA n g := by
  unfold arrV
  congr 1
  apply Array.ext
  · simp
  · intro i h1 h2
    simp only [Array.getElem_ofFn]
    exact h i (by simpa using h1)
theorem th_ok_kept {G : th_G} {Γ : th_Ga} {H H1 : Heap} {a : Nat} {d : th_De} (h : th_ok G Γ H a d) (e : H1[a]? = H[a]?) : th_ok G Γ H1 a d := by
  have hs : ∀ i, th_sl H1 a i = th_sl H a i := th_sl_kept e
  have hf : th_sl H1 a = th_sl H a := funext hs
  rcases d with ⟨k, fs⟩ | ⟨t, n1, n2, es⟩
  · obtain ⟨h1, h2⟩ := h
    refine ⟨?_, fun j q hq => ?_⟩
    · have h3 := h1.kept e
      simp only [hs]
      exact h3
    · rw [hs]; exact h2 j q hq
  · obtain ⟨n, h1, h2, h3, h4⟩ := h
    exact ⟨n, h1, h2, by rw [e, hf]; exact h3, fun i hi => by rw [hs]; exact h4 i hi⟩
theorem th_ok_lt {G : th_G} {Γ : th_Ga} {H : Heap} {a : Nat} {d : th_De} (h : th_ok G Γ H a d) : a < H.size := by
  rcases d with ⟨k, fs⟩ | ⟨t, n1, n2, es⟩
  · obtain ⟨⟨cell, h1, -⟩, -⟩ := h
    exact (Array.getElem?_eq_some_iff.mp h1).1
  · obtain ⟨n, -, -, h3, -⟩ := h
    exact (Array.getElem?_eq_some_iff.mp h3).1
/-- the store of v into slot i of the cell a -/
def th_St (H H1 : Heap) (a i : Nat) (v : Value) : Prop := H1.size = H.size ∧ th_sl H1 a i = v ∧ (∀ j, j ≠ i → th_sl H1 a j = th_sl H a j) ∧ (∀ q, q ≠ a → H1[q]? = H[q]?) ∧ th_ln H1 a = th_ln H a
theorem th_St_of {H H1 : Heap} {a i : Nat} {v : Value} {cell : Cell} (hc : H[a]? = some cell) (hi : i < cell.slots.size) (e1 : H1[a]? = some (cell.setSlot i v)) (z : H1.size = H.size) (oq : ∀ q, q ≠ a → H1[q]? = H[q]?) : th_St H H1 a i v := by
  refine ⟨z, th_sl_at e1 (Cell.slots_setSlot_self _ hi), fun j hj => ?_, oq, ?_⟩
  · unfold th_sl
    rw [e1, hc]
    show ((cell.setSlot i v).slots[j]?).getD .null = (cell.slots[j]?).getD .null
    rw [slot_ne _ _ (Ne.symm hj)]
  · rw [th_ln_at e1, th_ln_at hc]
    simp [Cell.setSlot]
theorem th_I_put {G : th_G} {Γ : th_Ga} {H H1 : Heap} (hI : th_I G Γ H) {a r o k j : Nat} {fs : List th_sp} {cell : Cell} {v : Value} (ha : Γ a = (r, o)) (hr : th_ro r = some (.inl (k, fs))) (hc : H[a]? = some cell) (hj : j < fs.length)
    (hap : ∀ x y, x < fs.length → y < fs.length → x ≠ y → G.1.2 k x ≠ G.1.2 k y) (e1 : H1[a]? = some (cell.setSlot (G.1.2 k j) v)) (oq : ∀ q, q ≠ a → H1[q]? = H[q]?) (hv : ∀ q, fs[j]? = some q → th_sat Γ a q v) : th_I G Γ H1 := by
  intro a' r' o' d hg hd
  obtain ⟨h1, h2⟩ := hI a' r' o' d hg hd
  refine ⟨h1, ?_⟩
  by_cases hq : a' = a
  · subst hq
    rw [ha] at hg
    cases hg
    rw [hr] at hd
    cases hd
    obtain ⟨⟨cell', c1, c2, c3, c4⟩, h4⟩ := h2
    cases hc.symm.trans c1
    have hs := t_set c4 hap hj v
    have hn : ∀ x, x < fs.length → th_sl H1 a' (G.1.2 k x) = updV (fun j => th_sl H a' (G.1.2 k j)) j v x := fun x hx => th_sl_at e1 (hs x hx)
    refine ⟨⟨_, e1, c2, c3, fun x hx => ?_⟩, fun x q hq => ?_⟩
    · rw [hs x hx]
      exact congrArg some (hn x hx).symm
    · have hx : x < fs.length := (List.getElem?_eq_some_iff.mp hq).1
      rw [hn x hx]
      by_cases hxj : x = j
      · subst hxj
        simp only [updV, if_true]
        exact hv q hq
      · simp only [updV, if_neg hxj]
        exact h4 x q hq
  · exact th_ok_kept h2 (oq a' hq)
theorem th_I_sto {G : th_G} {Γ : th_Ga} {H H1 : Heap} (hI : th_I G Γ H) {a r o t n1 n2 n i : Nat} {es : Nat → th_sp} {v : Value} (ha : Γ a = (r, o)) (hr : th_ro r = some (.inr (t, n1, n2, es))) (hc : H[a]? = some (arrV (G.2.1 t) n (th_sl H a))) (hi : i < n)
    (e1 : H1[a]? = some ((arrV (G.2.1 t) n (th_sl H a)).setSlot i v)) (oq : ∀ q, q ≠ a → H1[q]? = H[q]?) (hv : th_sat Γ a (es i) v) : th_I G Γ H1 := by
  intro a' r' o' d hg hd
  obtain ⟨h1, h2⟩ := hI a' r' o' d hg hd
  refine ⟨h1, ?_⟩
  by_cases hq : a' = a
  · subst hq
    rw [ha] at hg
    cases hg
    rw [hr] at hd
    cases hd
    obtain ⟨n', g1, g2, g3, g4⟩ := h2
    have hnn : n' = n := by
      have h5 := congrArg (fun c : Cell => c.slots.size) (Option.some.inj (g3.symm.trans hc))
      simpa [arrV_size] using h5
    subst hnn
    rw [arrV_store] at e1
    have hn : ∀ x, x < n' → th_sl H1 a' x = updV (th_sl H a') i v x := fun x hx => th_sl_at e1 (arrV_read _ _ hx)
    refine ⟨n', g1, g2, ?_, fun x hx => ?_⟩
    · rw [e1]
      exact congrArg some (th_arrV (fun x hx => (hn x hx).symm))
    · rw [hn x hx]
      by_cases hxj : x = i
      · subst hxj
        simp only [updV, if_true]
        exact hv
      · simp only [updV, if_neg hxj]
        exact g4 x hx
  · exact th_ok_kept h2 (oq a' hq)
theorem th_F_rf {G : th_G} {Γ : th_Ga} {L : List (Nat × Nat)} {H : Heap} : th_F G Γ L H H := by
  refine ⟨Nat.le_refl _, fun a r o d hg hd => ⟨rfl, ?_⟩⟩
  rcases d with ⟨k, fs⟩ | ⟨t, n1, n2, es⟩
  · exact fun _ _ _ => rfl
  · exact fun _ _ => rfl
theorem th_F_tr {G : th_G} {Γ : th_Ga} {L L1 : List (Nat × Nat)} {H H1 H2 : Heap} (h : th_F G Γ L H H1) (h1 : th_F G Γ L1 H1 H2) (hs : L1.all (fun q => L.contains q) = true) : th_F G Γ L H H2 := by
  have hs' : ∀ r j, th_in L r j = false → th_in L1 r j = false := by
    intro r j hf
    cases ht : th_in L1 r j with
    | false => rfl
    | true =>
      have h3 := List.all_eq_true.mp hs (r, j) (by simpa [th_in] using ht)
      have h4 : th_in L r j = true := h3
      rw [hf] at h4
      cases h4
  refine ⟨Nat.le_trans h.1 h1.1, fun a r o d hg hd => ?_⟩
  obtain ⟨a1, a2⟩ := h.2 a r o d hg hd
  obtain ⟨b1, b2⟩ := h1.2 a r o d hg hd
  refine ⟨b1.trans a1, ?_⟩
  rcases d with ⟨k, fs⟩ | ⟨t, n1, n2, es⟩
  · exact fun j hj hf => (b2 j hj (hs' r j hf)).trans (a2 j hj hf)
  · exact fun hf i => (b2 (hs' r 0 hf) i).trans (a2 hf i)
theorem th_F_put {G : th_G} {Γ : th_Ga} {L : List (Nat × Nat)} {H0 H H1 : Heap} (h : th_F G Γ L H0 H) {a r o k j : Nat} {fs : List th_sp} {v : Value} (ha : Γ a = (r, o)) (hr : th_ro r = some (.inl (k, fs))) (hj : j < fs.length)
    (hap : ∀ x y, x < fs.length → y < fs.length → x ≠ y → G.1.2 k x ≠ G.1.2 k y) (hst : th_St H H1 a (G.1.2 k j) v) (hL : th_in L r j = true) : th_F G Γ L H0 H1 := by
  obtain ⟨z, -, s2, s3, s4⟩ := hst
  refine ⟨by rw [z]; exact h.1, fun a' r' o' d hg hd => ?_⟩
  obtain ⟨a1, a2⟩ := h.2 a' r' o' d hg hd
  by_cases hq : a' = a
  · subst hq
    rw [ha] at hg
    cases hg
    rw [hr] at hd
    cases hd
    refine ⟨s4.trans a1, fun x hx hf => ?_⟩
    have hxj : x ≠ j := fun e => by rw [e, hL] at hf; cases hf
    rw [s2 _ (hap x j hx hj hxj)]
    exact a2 x hx hf
  · have e := s3 a' hq
    refine ⟨(th_ln_kept e).trans a1, ?_⟩
    rcases d with ⟨k, fs⟩ | ⟨t, n1, n2, es⟩
    · exact fun x hx hf => (th_sl_kept e _).trans (a2 x hx hf)
    · exact fun hf i => (th_sl_kept e _).trans (a2 hf i)
theorem th_F_sto {G : th_G} {Γ : th_Ga} {L : List (Nat × Nat)} {H0 H H1 : Heap} (h : th_F G Γ L H0 H) {a r o i : Nat} {x : Nat × Nat × Nat × (Nat → th_sp)} {v : Value} (ha : Γ a = (r, o)) (hr : th_ro r = some (.inr x))
    (hst : th_St H H1 a i v) (hL : th_in L r 0 = true) : th_F G Γ L H0 H1 := by
  obtain ⟨z, -, s2, s3, s4⟩ := hst
  refine ⟨by rw [z]; exact h.1, fun a' r' o' d hg hd => ?_⟩
  obtain ⟨a1, a2⟩ := h.2 a' r' o' d hg hd
  by_cases hq : a' = a
  · subst hq
    rw [ha] at hg
    cases hg
    rw [hr] at hd
    cases hd
    refine ⟨s4.trans a1, fun hf => ?_⟩
    rw [hL] at hf
    cases hf
  · have e := s3 a' hq
    refine ⟨(th_ln_kept e).trans a1, ?_⟩
    rcases d with ⟨k, fs⟩ | ⟨t, n1, n2, es⟩
    · exact fun x hx hf => (th_sl_kept e _).trans (a2 x hx hf)
    · exact fun hf i => (th_sl_kept e _).trans (a2 hf i)
theorem th_F_new {G : th_G} {Γ : th_Ga} {L : List (Nat × Nat)} {H0 H H1 : Heap} (h : th_F G Γ L H0 H) {a i : Nat} {v : Value} (ha : th_ro (Γ a).1 = none) (hst : th_St H H1 a i v) : th_F G Γ L H0 H1 := by
  obtain ⟨z, -, s2, s3, s4⟩ := hst
  refine ⟨by rw [z]; exact h.1, fun a' r' o' d hg hd => ?_⟩
  obtain ⟨a1, a2⟩ := h.2 a' r' o' d hg hd
  have hq : a' ≠ a := fun e => by
    subst e
    rw [hg] at ha
    rw [hd] at ha
    cases ha
  have e := s3 a' hq
  refine ⟨(th_ln_kept e).trans a1, ?_⟩
  rcases d with ⟨k, fs⟩ | ⟨t, n1, n2, es⟩
  · exact fun x hx hf => (th_sl_kept e _).trans (a2 x hx hf)
  · exact fun hf i => (th_sl_kept e _).trans (a2 hf i)
end TH
