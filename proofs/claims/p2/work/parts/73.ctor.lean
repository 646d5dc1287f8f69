section TP
variable {G : th_G} {Γ Γ0 Γ1 : th_Ga} {H H0 H1 : Heap} {locs locs1 : List Loc} {a0 : Nat}
theorem th_MR_lt (hR : th_RC G Γ H) {q : Nat} (h : th_MR G Γ H q) : q < H.size := by
  obtain ⟨a, o, j, g, j1, j4, e⟩ := h
  obtain ⟨n, b1, b2, b3, b4, -, -, m1, m2, m3, m4, -, ⟨f1, -, -, s1⟩, ⟨f2, -, -, s2⟩, ⟨f3, -, -, s3⟩, ⟨f4, ⟨-, -, s4⟩, -⟩, -⟩ := hR.2.2.1 a o g
  have lt : ∀ {b t N : Nat} {f : Nat → Value}, H[b]? = some (arrV (G.2.1 t) N f) → b < H.size := fun h => (Array.getElem?_eq_some_iff.mp h).1
  have hj : j = 1 ∨ j = 2 ∨ j = 3 ∨ j = 4 := by omega
  rcases hj with rfl | rfl | rfl | rfl
  · cases m1.symm.trans e; exact lt s1
  · cases m2.symm.trans e; exact lt s2
  · cases m3.symm.trans e; exact lt s3
  · cases m4.symm.trans e; exact lt s4
theorem th_MR_un (hR : th_RC G Γ H) {q : Nat} (h : th_MR G Γ H q) : th_ro (Γ q).1 = none := by
  obtain ⟨a, o, j, g, j1, j4, e⟩ := h
  obtain ⟨n, b1, b2, b3, b4, -, -, m1, m2, m3, m4, -, ⟨f1, -, s1, -⟩, ⟨f2, -, s2, -⟩, ⟨f3, -, s3, -⟩, ⟨f4, ⟨-, s4, -⟩, -⟩, -⟩ := hR.2.2.1 a o g
  have hj : j = 1 ∨ j = 2 ∨ j = 3 ∨ j = 4 := by omega
  rcases hj with rfl | rfl | rfl | rfl
  · cases m1.symm.trans e; exact s1
  · cases m2.symm.trans e; exact s2
  · cases m3.symm.trans e; exact s3
  · cases m4.symm.trans e; exact s4
/-- a cell without a name changed, or came -/
theorem th_MR_s {b q : Nat} (hb : th_ro (Γ b).1 = none) (oq : ∀ q, q ≠ b → H1[q]? = H[q]?) (h : th_MR G Γ H1 q) : th_MR G Γ H q := by
  obtain ⟨a, o, j, g, j1, j4, e⟩ := h
  have hn : a ≠ b := fun w => by
    rw [← w, g] at hb
    cases hb
  exact ⟨a, o, j, g, j1, j4, (th_sl_kept (oq a hn) _).symm.trans e⟩
theorem th_RC_s (hI : th_I G Γ H) (hR : th_RC G Γ H) {b : Nat} (hb : th_ro (Γ b).1 = none) (hm : ¬ th_MR G Γ H b) (hI1 : th_I G Γ H1) (hz : H.size ≤ H1.size) (oq : ∀ q, q ≠ b → H1[q]? = H[q]?) : th_RC G Γ H1 := by
  refine th_RC_X hI hR hb hm hI1 hz (fun q _ hq => ⟨rfl, oq q hq⟩) (fun q r o hg hq => ?_)
  have hu : th_ro r = none := by
    rcases hq with rfl | hq
    · rw [hg] at hb; exact hb
    · have := tc_un hI hq
      rw [hg] at this
      exact this
  refine ⟨fun e => ?_, fun e => ?_, fun e => ?_⟩
  · subst e; cases hu
  · rcases e with e | e <;> (subst e; cases hu)
  · subst e; cases hu
/-- a constructor's run, with the class's relations -/
def th_NR (G : th_G) (Γ0 Γ : th_Ga) (a0 : Nat) (H0 H : Heap) (locs : List Loc) : Prop := th_N G Γ0 Γ a0 H0 H locs ∧ th_RC G Γ H ∧ ¬ th_MR G Γ H a0 ∧ ∀ q, th_MR G Γ H q → th_MR G Γ0 H0 q ∨ H0.size ≤ q
theorem th_NR_s {b : Nat} (h : th_NR G Γ0 Γ a0 H0 H locs) (h1 : th_N G Γ0 Γ a0 H0 H1 locs1) (hb : th_ro (Γ b).1 = none) (hm : ¬ th_MR G Γ H b) (hz : H.size ≤ H1.size) (oq : ∀ q, q ≠ b → H1[q]? = H[q]?) : th_NR G Γ0 Γ a0 H0 H1 locs1 :=
  ⟨h1, th_RC_s h.1.1 h.2.1 hb hm h1.1 hz oq, fun w => h.2.2.1 (th_MR_s hb oq w), fun q w => h.2.2.2 q (th_MR_s hb oq w)⟩
/-- what a constructor gives -/
def th_NY (G : th_G) (Γ Γ1 : th_Ga) (a0 r : Nat) (Ls : List Nat) (H H1 : Heap) : Prop := th_NX G Γ Γ1 a0 H H1 ∧ th_RC G Γ1 H1 ∧ Γ1 a0 = (r, 0) ∧ (∀ q, th_MR G Γ1 H1 q → th_MR G Γ H q ∨ H.size ≤ q) ∧ ∀ q x o : Nat, Γ1 q = (x, o) → (q = a0 ∨ H.size ≤ q) → (th_ro x).isSome = true → x ∈ Ls
/-- behind a constructor that was called -/
theorem th_NR_c {b r : Nat} {Ls : List Nat} (h : th_NR G Γ0 Γ a0 H0 H locs) (hy : th_NY G Γ Γ1 b r Ls H H1) (hb : H0.size ≤ b) (hS : va_S (fun q => G.2.2 ≤ q) H0 H1 locs1) : th_NR G Γ0 Γ1 a0 H0 H1 locs1 := by
  obtain ⟨⟨hI, hS0, hO, hG, hu, hsz, hlt0⟩, hR, hm, hM⟩ := h
  obtain ⟨⟨hI1, hz, hX⟩, hR1, hn, hM1, -⟩ := hy
  have hle := hS0.1
  refine ⟨⟨hI1, hS, fun q h1 h2 => ?_, fun q h1 h2 => ?_, ?_, hsz, hlt0⟩, hR1, fun w => ?_, fun q w => ?_⟩
  · exact (hX q (by omega) (by omega)).2.trans (hO q h1 h2)
  · exact (hX q (by omega) (by omega)).1.trans (hG q h1 h2)
  · rw [(hX a0 (by omega) (by omega)).1]
    exact hu
  · rcases hM1 a0 w with w | w
    · exact hm w
    · omega
  · rcases hM1 q w with w | w
    · exact hM q w
    · exact Or.inr (by omega)
theorem tc_MAc {b r b' t N : Nat} {Ls : List Nat} {f : Nat → Value} (h : th_MA G Γ H b' t N f) (hy : th_NY G Γ Γ1 b r Ls H H1) (hn : b' ≠ b) : th_MA G Γ1 H1 b' t N f := by
  obtain ⟨x1, x2⟩ := hy.1.2.2 b' (tm_lt h) hn
  exact ⟨h.1, by rw [x1]; exact h.2.1, x2.trans h.2.2⟩
theorem tc_OBc {b r k N : Nat} {Ls : List Nat} {V : Nat → Value} (h : th_OB G Γ H a0 k N V) (hy : th_NY G Γ Γ1 b r Ls H H1) (hlt : a0 < H.size) (hn : a0 ≠ b) : th_OB G Γ1 H1 a0 k N V := by
  obtain ⟨x1, x2⟩ := hy.1.2.2 a0 hlt hn
  exact ⟨by rw [x1]; exact h.1, h.2.kept x2⟩
theorem tc_OBo {b a k N : Nat} {V : Nat → Value} (h : th_OB G Γ H a k N V) (oq : ∀ q, q ≠ b → H1[q]? = H[q]?) (hn : a ≠ b) : th_OB G Γ H1 a k N V := ⟨h.1, h.2.kept (oq a hn)⟩
/-- the class's relations over a name more -/
theorem th_RC_up (hI : th_I G Γ H) (hR : th_RC G Γ H) {b : Nat} {x : Nat × Nat} (hb : th_ro (Γ b).1 = none) (hm : ¬ th_MR G Γ H b) (hI1 : th_I G (th_up Γ b x) H) (h3 : x.1 = 3 → th_XY G H b) (h18 : x.1 = 18 ∨ x.1 = 19 → th_PS H b) (h12 : x.1 ≠ 12) : th_RC G (th_up Γ b x) H := by
  refine th_RC_X hI hR hb hm hI1 (Nat.le_refl _) (fun q _ hq => ⟨th_up_n hq, rfl⟩) (fun q r o hg hq => ?_)
  by_cases e : q = b
  · subst e
    rw [th_up_s] at hg
    subst hg
    exact ⟨h3, h18, h12⟩
  · rw [th_up_n e] at hg
    have hu : th_ro r = none := by
      rcases hq with hq | hq
      · exact absurd hq e
      · have := tc_un hI hq
        rw [hg] at this
        exact this
    refine ⟨fun e => ?_, fun e => ?_, fun e => ?_⟩
    · subst e; cases hu
    · rcases e with e | e <;> (subst e; cases hu)
    · subst e; cases hu
theorem th_MR_up {b q : Nat} {x : Nat × Nat} (h12 : x.1 ≠ 12) (h : th_MR G (th_up Γ b x) H q) : th_MR G Γ H q := by
  obtain ⟨a, o, j, g, j1, j4, e⟩ := h
  have hn : a ≠ b := fun w => by
    subst w
    rw [th_up_s] at g
    exact h12 (by rw [g])
  rw [th_up_n hn] at g
  exact ⟨a, o, j, g, j1, j4, e⟩
end TP
