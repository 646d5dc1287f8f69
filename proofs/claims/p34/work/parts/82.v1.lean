section TVW
variable {G : th_G} {Γ : th_Ga} {H H1 : Heap} {L : List (Nat × Nat)} {A r o : Nat}
/-- the row at A, as numbers -/
def tv_v (H : Heap) (A : Nat) (z : Int) : Int := if z < 0 then 0 else (mo_i (th_sl H A z.toNat)).toInt
/-- field j of the object at A, of class k -/
def tv_f (G : th_G) (H : Heap) (A k j : Nat) : Int := (mo_i (th_sl H A (G.1.2 k j))).toInt
theorem tv_v_F {x : Nat × Nat × Nat × (Nat → th_sp)} (hF : th_F G Γ L H H1) (ha : Γ A = (r, o)) (hr : th_ro r = some (.inr x)) (hL : th_in L r 0 = false) : tv_v H1 A = tv_v H A := by
  funext z
  unfold tv_v
  rw [th_F_a hF ha hr hL]
theorem tv_f_F {k j : Nat} {fs : List th_sp} (hF : th_F G Γ L H H1) (ha : Γ A = (r, o)) (hr : th_ro r = some (.inl (k, fs))) (hj : j < fs.length) (hL : th_in L r j = false) : tv_f G H1 A k j = tv_f G H A k j := by
  unfold tv_f
  rw [th_F_o hF ha hr hj hL]
theorem tv_v_st {z : Int} {w : Int32} (hst : th_St H H1 A z.toNat (.int w)) (h0 : 0 ≤ z) : tv_v H1 A = mo_u (tv_v H A) z w.toInt := by
  obtain ⟨-, s1, s2, -⟩ := hst
  funext y
  show (if y < 0 then 0 else (mo_i (th_sl H1 A y.toNat)).toInt) = (if y = z then w.toInt else if y < 0 then 0 else (mo_i (th_sl H A y.toNat)).toInt)
  by_cases h1 : y = z
  · rw [if_pos h1, if_neg (by omega), h1, s1]
    rfl
  · rw [if_neg h1]
    by_cases h2 : y < 0
    · rw [if_pos h2, if_pos h2]
    · rw [if_neg h2, if_neg h2, s2 _ (by omega)]
theorem tv_vat {z : Int} {x : Int32} (h : th_sl H A z.toNat = .int x) (h0 : 0 ≤ z) : tv_v H A z = x.toInt := by
  unfold tv_v
  rw [if_neg (by omega), h]
  rfl
theorem tv_fat {k j : Nat} {x : Int32} (h : th_sl H A (G.1.2 k j) = .int x) : tv_f G H A k j = x.toInt := by
  unfold tv_f
  rw [h]
  rfl
theorem tv_f_St {k j : Nat} {w : Int32} (hst : th_St H H1 A (G.1.2 k j) (.int w)) : tv_f G H1 A k j = w.toInt := tv_fat hst.2.1
end TVW
