section QTX
variable {V W : dV} {a : Int} {A : Nat → Int}
/-- all is new -/
theorem RR_0 (hA : inj A) (hG : G A V)
    (h4 : ∀ c, 0 ≤ c → c < 9 → V (A 4) 0 c = 0 ∧ V (A 4) 1 c = 0 ∧ V (A 4) 2 c = 0 ∧ V (A 4) 3 c = 0 ∧ V (A 4) 4 c = 0)
    (h5 : V (A 4) 5 0 = 0 ∧ V (A 4) 5 1 = 1 ∧ V (A 4) 5 2 = 0) (h7 : V (A 4) 7 0 = 0 ∧ V (A 4) 8 0 = 8 ∧ V (A 4) 9 0 = 8 ∧ V (A 4) 10 0 = 0)
    (hS : V (A 1) 5 0 = 0 ∧ V (A 1) 6 0 = -1 ∧ V (A 1) 7 0 = 0)
    (hK : ∀ z, 0 ≤ z → z < 5680 → W a 2 z = if z = 65 then 1 else if z = 67 then 8 else if z = 68 then 8 else if z = 72 then -1 else 0)
    (hi : ∀ k : Nat, k < 2 → V (A 0) 2 (k : Int) = 0 ∧ W a 4 (k : Int) = 0) (ht : V (A 9) 1 0 = 0 ∧ W a 13 0 = 0) (hp : V (A 15) 4 0 = 0 ∧ W a 33 0 = 0)
    (h77 : V (A 7) 7 0 = 0 ∧ (W a 55 0 = 0 ∨ W a 55 0 = -1)) (h72 : ∀ c, 0 ≤ c → c < 9 → V (A 7) 2 c = 0 ∧ V (A 7) 3 c = 0 ∧ V (A 7) 4 c = 0) (h54 : ∀ z, 0 ≤ z → z < 27 → W a 54 z = 0)
    (hm : ∀ z, 0 ≤ z → z < 5 → V (A 0) 13 z = 0) (hm1 : ∀ z, 0 ≤ z → z < 7 → W a 1 z = 0) (hs : V (A 0) 14 0 = W a 0 0)
    (ha : V (A 0) 15 0 = W a 14 0 ∧ V (A 0) 16 0 = W a 6 0 ∧ V (A 0) 17 0 = W a 47 0)
    (hr : ∀ z, V (A 10) 1 z = W a 17 z) (hw : ∀ z, 0 ≤ z → z < 127 → W a 7 z = WT.getD z.toNat 0)
    (hk : ∀ k, 8 ≤ k → k < 23 → -2147483648 ≤ V (A 14) 1 k ∧ V (A 14) 1 k ≤ 2147483647) : RR A a V W := by
  obtain ⟨e7, e8, e9, e10⟩ := h7
  obtain ⟨e50, e51, e52⟩ := h5
  have k0 : ∀ z, 0 ≤ z → z < 47 → W a 2 z = 0 := fun z z0 z1 => by
    rw [hK z z0 (by omega), if_neg (by omega), if_neg (by omega), if_neg (by omega), if_neg (by omega)]
  have k65 : W a 2 65 = 1 := by rw [hK 65 (by decide) (by decide)]; rfl
  have k66 : W a 2 66 = 0 := by rw [hK 66 (by decide) (by decide)]; rfl
  have k67 : W a 2 67 = 8 := by rw [hK 67 (by decide) (by decide)]; rfl
  have k68 : W a 2 68 = 8 := by rw [hK 68 (by decide) (by decide)]; rfl
  have k69 : W a 2 69 = 0 := by rw [hK 69 (by decide) (by decide)]; rfl
  have k70 : W a 2 70 = 0 := by rw [hK 70 (by decide) (by decide)]; rfl
  have k71 : W a 2 71 = 0 := by rw [hK 71 (by decide) (by decide)]; rfl
  have k72 : W a 2 72 = -1 := by rw [hK 72 (by decide) (by decide)]; rfl
  have g : kgf (V (A 4)) := by
    refine ⟨⟨by omega, by omega, by omega, fun c c0 c1 => absurd c1 (by omega)⟩, fun c d px py c0 c1 => absurd c1 (by omega), fun c c0 c1 => absurd c1 (by omega), fun c c0 c1 => absurd c1 (by omega), ?_, ?_, ?_, ?_, ?_⟩
    · omega
    · omega
    · omega
    · omega
    · omega
  refine ⟨hA, hG, ⟨⟨ef_of ⟨by rw [e7, k69], by rw [e8, k67], by rw [e9, k68], by rw [e10, k0 27 (by decide) (by decide)], by rw [e50, k0 28 (by decide) (by decide)], by rw [e51, k65], by rw [e52, k66], fun c c0 c9 => ?_⟩, g⟩, ⟨?_, ?_, fun z z0 z1 => absurd z1 ?_⟩, ⟨?_, ?_, ?_, ?_, fun t ht' => absurd ht' ?_⟩⟩, fun k k2 => ⟨?_, fun n => absurd (hi k k2).1 n⟩, ⟨by rw [ht.1, ht.2], by rw [ht.2]; decide, fun z z0 z1 => absurd z1 (by rw [ht.2]; omega)⟩, ⟨by rw [hp.1, hp.2], by rw [hp.2]; decide, fun u u0 u1 => absurd u1 (by rw [hp.2]; omega)⟩, ⟨?_, by rw [h77.1]; decide, fun c c0 c9 => ?_⟩, ⟨?_, hs⟩, ha, hr, hw, hk⟩
  · obtain ⟨q0, q1, q2, q3, q4⟩ := h4 c c0 c9
    rw [q0, q1, q2, q3, q4, k0 _ (by omega) (by omega), k0 _ (by omega) (by omega), k0 _ (by omega) (by omega), k0 _ (by omega) (by omega), k0 _ (by omega) (by omega)]
    exact ⟨rfl, rfl, rfl, rfl, rfl⟩
  · show V (A 1) 7 0 = W a 2 (0 + 70)
    rw [hS.2.2, Int.zero_add, k70]
  · show 0 ≤ V (A 1) 7 0 ∧ V (A 1) 7 0 ≤ 6
    rw [hS.2.2]; decide
  · show ¬ z < V (A 1) 7 0
    rw [hS.2.2]; omega
  · show V (A 1) 5 0 = W a 2 (0 + 71)
    rw [hS.1, Int.zero_add, k71]
  · show 0 ≤ V (A 1) 5 0 ∧ V (A 1) 5 0 ≤ 6
    rw [hS.1]; decide
  · show V (A 1) 6 0 = W a 2 (0 + 72)
    rw [hS.2.1, Int.zero_add, k72]
  · show -1 ≤ V (A 1) 6 0 ∧ V (A 1) 6 0 < V (A 1) 5 0
    rw [hS.1, hS.2.1]; decide
  · show ¬ (t : Int) < V (A 1) 5 0
    rw [hS.1]; omega
  · rw [(hi k k2).1, (hi k k2).2]
  · rcases h77.2 with q | q
    · exact Or.inl (by rw [h77.1, q])
    · exact Or.inr ⟨h77.1, q⟩
  · obtain ⟨q2, q3, q4⟩ := h72 c c0 c9
    rw [q2, q3, q4, h54 _ (by omega) (by omega), h54 _ (by omega) (by omega), h54 _ (by omega) (by omega)]
    exact ⟨rfl, rfl, rfl⟩
  · rw [hm 0 (by decide) (by decide), hm 1 (by decide) (by decide), hm 2 (by decide) (by decide), hm 3 (by decide) (by decide), hm 4 (by decide) (by decide), hm1 1 (by decide) (by decide), hm1 2 (by decide) (by decide), hm1 3 (by decide) (by decide), hm1 5 (by decide) (by decide), hm1 6 (by decide) (by decide)]
    exact ⟨rfl, rfl, rfl, rfl, rfl⟩
end QTX
section QTY
variable {V V' V1 U : dV} {d s p q u : Int}
/-- only the cells of d have changed -/
def bo_fr (d : Int) (V V' : dV) : Prop := ∀ b m z, b ≠ d → V' b m z = V b m z
theorem bo_t (h : bo_fr d V V') (k : bo_fr d V' V1) : bo_fr d V V1 := fun b m z q => (k b m z q).trans (h b m z q)
theorem bo_u {m : Nat} {z y : Int} : bo_fr d V (dv_u V d m z y) := fun _ _ _ h => u_b h
theorem bo_copy (h : f_X1_copyFrom V d s = (V', u)) : bo_fr d V V' := by
  unfold f_X1_copyFrom at h
  rw [bq, bq, bq, bq, bq, bq, bq, bq, bq, bq, bq, bq, bq, bq] at h
  have e := (congrArg Prod.fst h).symm
  dsimp only at e
  rw [e]
  intro b m z hb
  rw [u_b hb, u_b hb, u_b hb, u_b hb, cp_b hb, cp_b hb, cp_b hb, cp_b hb, cp_b hb, cp_b hb]
theorem bo_roll0 : ∃ V' : dV, f_X1_rollUp V d p = (V', 0) ∧ bo_fr d V V' ∧ V' d 7 0 = V d 7 0 := by
  unfold f_X1_rollUp
  rw [bq2]
  by_cases e : (f_X1_has V d p).1 = 0
  · rw [if_pos e]
    exact ⟨V, rfl, fun _ _ _ _ => rfl, rfl⟩
  · rw [if_neg e, bq, bq]
    exact ⟨_, rfl, bo_t bo_u bo_u, by rw [u_j (by decide), u_j (by decide)]⟩
theorem bo_roll (h : f_X1_rollUp V d p = (V', u)) : bo_fr d V V' := by
  obtain ⟨V1, e, f, -⟩ := bo_roll0 (V := V) (d := d) (p := p)
  rw [e] at h
  have e := congrArg Prod.fst h
  dsimp only at e
  rw [← e]
  exact f
theorem bo_into (h : f_X1_emptyInto V d p q = (V', u)) : bo_fr d V V' := by
  have L : ∃ V1 : dV, f_X1_emptyInto V d p q = (V1, 0) ∧ bo_fr d V V1 := by
    unfold f_X1_emptyInto
    refine dv_inv (b := f_X1_emptyInto_2b) (P := fun s => ∃ (U : dV) (j : Int), s = (U, d, p, q, j) ∧ bo_fr d V U ∧ U d 7 0 = V d 7 0) (Q := fun r => ∃ V1 : dV, r = (V1, 0) ∧ bo_fr d V V1) (m := fun s => (V d 7 0 - s.2.2.2.2).toNat) ?_ _ ⟨V, 0, rfl, fun _ _ _ _ => rfl, rfl⟩
    rintro s ⟨U, j, rfl, hU, h7⟩
    rw [f_X1_emptyInto_2e]
    unfold f_X1_emptyInto_2c
    rw [bq, h7]
    by_cases e : V d 7 0 ≤ j
    · rw [if_pos e, bq, bq]
      exact Or.inr ⟨_, rfl, _, rfl, bo_t hU (bo_t bo_u bo_u)⟩
    · obtain ⟨U1, r1, r2, r3⟩ := bo_roll0 (V := U) (d := d) (p := j)
      rw [if_neg e, dv_bn2 r1, bq]
      exact Or.inl ⟨_, rfl, ⟨U1, j + 1, rfl, bo_t hU r2, by rw [r3, h7]⟩, by dsimp only; omega⟩
  obtain ⟨V1, e, f⟩ := L
  rw [e] at h
  have e := congrArg Prod.fst h
  dsimp only at e
  rw [← e]
  exact f
end QTY
