section TU
variable {G : th_G} {Γ : th_Ga} {H H0 : Heap} {a0 : Nat}
theorem th_RC_mm (hR : th_RC G Γ H) (hno : ∀ a o : Nat, Γ a ≠ (12, o)) {V : Nat → Value} (ho : th_OB G Γ H a0 3 7 V) {b1 b2 b3 b4 : Nat} (v0 : V 0 = .int 10) (v1 : V 1 = .ref b1) (v2 : V 2 = .ref b2) (v3 : V 3 = .ref b3) (v4 : V 4 = .ref b4) (v5 : V 5 = .int 0) {f1 : Nat → Int64} (k1 : th_MA G Γ H b1 1 1024 (fun i => .long (f1 i))) (k2 : th_MA G Γ H b2 0 1024 (fun _ => .int 0)) (k3 : th_MA G Γ H b3 0 1024 (fun _ => .int 0)) (k4 : th_MA G Γ H b4 0 512 (fun _ => .int 0))
    (d12 : b1 ≠ b2) (d13 : b1 ≠ b3) (d14 : b1 ≠ b4) (d23 : b2 ≠ b3) (d24 : b2 ≠ b4) (d34 : b3 ≠ b4) (e1 : b1 ≠ a0) (e2 : b2 ≠ a0) (e3 : b3 ≠ a0) (e4 : b4 ≠ a0) : th_RC G (th_up Γ a0 (12, 0)) H := by
  obtain ⟨r1, r2, -, -⟩ := hR
  have hu := ho.1
  obtain ⟨-, cell, q1, q2, q3, q4⟩ := ho
  have hn : ∀ j, j < 7 → th_sl H a0 (G.1.2 3 j) = V j := fun j hj => th_sl_at q1 (q4 j hj)
  have hold : ∀ q r o : Nat, th_up Γ a0 (12, 0) q = (r, o) → r ≠ 12 → Γ q = (r, o) := fun q r o h hr => by
    by_cases e : q = a0
    · rw [e, th_up_s] at h
      cases h
      exact absurd rfl hr
    · rw [th_up_n e] at h
      exact h
  have hmm : ∀ a o : Nat, th_up Γ a0 (12, 0) a = (12, o) → a = a0 := fun a o h => by
    by_cases e : a = a0
    · exact e
    · rw [th_up_n e] at h
      exact absurd h (hno a o)
  refine ⟨fun a o ha => r1 a o (hold a 3 o ha (by decide)), fun b o hb => r2 b o (hb.elim (fun w => Or.inl (hold b 18 o w (by decide))) (fun w => Or.inr (hold b 19 o w (by decide)))), fun a o ha => ?_, fun a a' o o' ha ha' => (hmm a o ha).trans (hmm a' o' ha').symm⟩
  cases hmm a o ha
  exact ⟨10, b1, b2, b3, b4, Or.inl rfl, (hn 0 (by decide)).trans v0, (hn 1 (by decide)).trans v1, (hn 2 (by decide)).trans v2, (hn 3 (by decide)).trans v3, (hn 4 (by decide)).trans v4, ⟨d12, d13, d14, d23, d24, d34⟩, ⟨f1, th_MA_up k1 e1⟩, ⟨fun _ => 0, th_MA_up k2 e2⟩, ⟨fun _ => 0, th_MA_up k3 e3⟩, ⟨fun _ => 0, th_MA_up k4 e4, fun _ => (by decide : 0 ≤ (0 : Int32).toInt ∧ (0 : Int32).toInt < 2 ^ 10)⟩, 0, (hn 5 (by decide)).trans v5, by decide, by decide⟩
theorem th_MR_mm (hno : ∀ a o : Nat, Γ a ≠ (12, o)) {V : Nat → Value} (ho : th_OB G Γ H a0 3 7 V) {b1 b2 b3 b4 : Nat} (v1 : V 1 = .ref b1) (v2 : V 2 = .ref b2) (v3 : V 3 = .ref b3) (v4 : V 4 = .ref b4) {n : Nat} (h1 : n ≤ b1) (h2 : n ≤ b2) (h3 : n ≤ b3) (h4 : n ≤ b4) {q : Nat} (h : th_MR G (th_up Γ a0 (12, 0)) H q) : n ≤ q := by
  obtain ⟨a, o, j, g, j1, j4, e⟩ := h
  obtain ⟨-, cell, q1, q2, q3, q4⟩ := ho
  have ea : a = a0 := by
    by_cases w : a = a0
    · exact w
    · rw [th_up_n w] at g
      exact absurd g (hno a o)
  subst ea
  have hn : ∀ j, j < 7 → th_sl H a (G.1.2 3 j) = V j := fun j hj => th_sl_at q1 (q4 j hj)
  have hj : j = 1 ∨ j = 2 ∨ j = 3 ∨ j = 4 := by omega
  rcases hj with rfl | rfl | rfl | rfl
  · cases ((hn 1 (by decide)).trans v1).symm.trans e; exact h1
  · cases ((hn 2 (by decide)).trans v2).symm.trans e; exact h2
  · cases ((hn 3 (by decide)).trans v3).symm.trans e; exact h3
  · cases ((hn 4 (by decide)).trans v4).symm.trans e; exact h4
end TU
