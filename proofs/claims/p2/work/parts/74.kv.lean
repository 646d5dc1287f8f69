section TKV
variable {G : th_G} {Γ : th_Ga} {H H0 H1 : Heap} {L : List (Nat × Nat)} {sh : Int}
/-- the cells of all floors but one; their bits are left out -/
def kv (G : th_G) (Γ : th_Ga) (H : Heap) (sh : Int) : dV := fun b j z => if b ≠ sh ∧ (Γ b.toNat).1 = 3 ∧ j ≠ 6 then dv G Γ H b j z else 0
theorem kv_c (h : bo_fr sh (dv G Γ H) (dv G Γ H1)) : kv G Γ H1 sh = kv G Γ H sh := dv_ext fun b j z => by
  unfold kv
  by_cases e : b ≠ sh ∧ (Γ b.toNat).1 = 3 ∧ j ≠ 6
  · rw [if_pos e, if_pos e]; exact h b j z e.1
  · rw [if_neg e, if_neg e]
/-- a floor's fields: which rows it owns -/
theorem kv_q {j : Nat} (h : j < 11) (h6 : j ≠ 6) : ∃ q : th_sp, th_f3[j]? = some q ∧ (q.1 = 4 → 4 ≤ q.2.1.toNat ∧ q.2.1.toNat < 10) := by
  match j, h, h6 with
  | 0, _, _ => exact ⟨_, rfl, by decide⟩
  | 1, _, _ => exact ⟨_, rfl, by decide⟩
  | 2, _, _ => exact ⟨_, rfl, by decide⟩
  | 3, _, _ => exact ⟨_, rfl, by decide⟩
  | 4, _, _ => exact ⟨_, rfl, by decide⟩
  | 5, _, _ => exact ⟨_, rfl, by decide⟩
  | 6, _, w => exact absurd rfl w
  | 7, _, _ => exact ⟨_, rfl, by decide⟩
  | 8, _, _ => exact ⟨_, rfl, by decide⟩
  | 9, _, _ => exact ⟨_, rfl, by decide⟩
  | 10, _, _ => exact ⟨_, rfl, by decide⟩
  | n + 11, w, _ => exact absurd w (by omega)
/-- nothing of a floor is in L -/
def kv_L (L : List (Nat × Nat)) : Bool := (List.range 11).all (fun j => j == 6 || !th_in L 3 j) && (List.range 10).all (fun r => r < 4 || !th_in L r 0)
theorem kv_F (hI : th_I G Γ H) (hI1 : th_I G Γ H1) (hF : th_F G Γ L H H1) (hL : kv_L L = true) : kv G Γ H1 sh = kv G Γ H sh := dv_ext fun b j z => by
  unfold kv
  by_cases e : b ≠ sh ∧ (Γ b.toNat).1 = 3 ∧ j ≠ 6
  case neg => rw [if_neg e, if_neg e]
  rw [if_pos e, if_pos e]
  obtain ⟨-, e3, e6⟩ := e
  obtain ⟨h1, h2⟩ := Bool.and_eq_true_iff.mp hL
  have L1 : ∀ j, j < 11 → j ≠ 6 → th_in L 3 j = false := fun j hj h6 => by
    have h := List.all_eq_true.mp h1 j (List.mem_range.mpr hj)
    cases hh : th_in L 3 j with
    | false => rfl
    | true => simp [hh, h6] at h
  have L2 : ∀ r, 4 ≤ r → r < 10 → th_in L r 0 = false := fun r r4 r10 => by
    have h := List.all_eq_true.mp h2 r (List.mem_range.mpr r10)
    cases hh : th_in L r 0 with
    | false => rfl
    | true =>
      have n4 : ¬ r < 4 := by omega
      simp [hh, n4] at h
  by_cases b0 : b < 0
  · unfold dv
    rw [if_pos (Or.inl b0), if_pos (Or.inl b0)]
  · have hb : b = ((b.toNat : Nat) : Int) := by omega
    obtain ⟨o, hg⟩ : ∃ o, Γ b.toNat = (3, o) := ⟨(Γ b.toNat).2, by rw [← e3]⟩
    by_cases j11 : j < 11
    · obtain ⟨q, hq, hr⟩ := kv_q j11 e6
      exact dv_F hI hI1 hF hb hg ro_3 hq (L1 j j11 e6) (fun q4 => L2 _ (hr q4).1 (hr q4).2)
    · have hno : ¬ ∃ r o k fs q, Γ b.toNat = (r, o) ∧ th_ro r = some (.inl (k, fs)) ∧ fs[j]? = some q := by
        rintro ⟨r, o1, k, fs, q, w1, w2, w3⟩
        rw [hg] at w1
        cases w1
        cases ro_3.symm.trans w2
        have w4 := (List.getElem?_eq_some_iff.mp w3).1
        have w5 : th_f3.length = 11 := rfl
        omega
      rw [dv_no (Or.inr hno), dv_no (Or.inr hno)]
end TKV
