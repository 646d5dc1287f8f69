section QTV
variable {V V' W W' : dV} {a x y c p q k u : Int} {A : Nat → Int} {i : Nat}
/-- what the class's search changes of the objects -/
def cs_L (i m : Nat) : Bool := i == 8 || i == 12 || i == 14 || i == 18 || i == 19 || (m == 6 && ((4 ≤ i && i ≤ 8) || i == 16))
/-- the class has searched -/
theorem RR_cs (h : RR A a V W) (f : cf A cs_L V V') (hw : ∀ k, 8 ≤ k → k < 23 → -2147483648 ≤ V' (A 14) 1 k ∧ V' (A 14) 1 k ≤ 2147483647) : RR A a V' W := by
  obtain ⟨h1, h2, h3, h4, h5, h6, h7, h8, h9, h10⟩ := h
  exact ⟨h1, G_c h2 (cf_ag f rfl), stR_c (by decide) h3 (cf_ag f rfl) (fun _ _ => rfl), imR_c h4 (cf_ag f rfl) (fun _ => rfl) (fun _ => rfl), tpR_c h5 (cf_ag f rfl) (fun _ => rfl) rfl, psR_c h6 (cf_ag f rfl) (fun _ => rfl) rfl, ppR_c h7 (cf_ag f rfl) (fun _ => rfl) rfl, miR_c h8 (cf_ag f rfl) rfl (fun _ => rfl), taR_c h9 (cf_ag f rfl) rfl rfl rfl, ⟨fun z => by rw [f 10 1 z (by decide) (by decide) rfl]; exact h10.1 z, h10.2.1, hw⟩⟩
theorem L_at (h : RR A a V W) : ∃ u, f_X11_at V (A 0) x y = (u, ()) ∧ f_X12_at W a x y = (u, ()) := by
  obtain ⟨g0, g1, -⟩ := RR_G h
  obtain ⟨kk, e7, -⟩ := RR_n h
  have e : ef (V (A 4)) (kf (W a 2) 0) := h.2.2.1.1.1
  have h2 := ef_fb e kk.1
  obtain ⟨r, e1, h1⟩ := q_carpetOn (V := V) (a := A 4) (px := x) (py := y) kk.1
  obtain ⟨r', e1', h1'⟩ := q_at (V := W) (a := a) (px := x) (py := y) h2
  have hn := kk.1.1
  have er : r = r' := by
    rcases h1 with ⟨rfl, k1⟩ | ⟨a0, a1, a2⟩
    · rcases h1' with ⟨rfl, -⟩ | ⟨b0, b1, b2⟩
      · rfl
      · exact absurd ((ef_cov e b0 (by omega)).mpr b2) (k1 r' b0 (by omega))
    · rcases h1' with ⟨rfl, k1⟩ | ⟨b0, b1, b2⟩
      · exact absurd ((ef_cov e a0 (by omega)).mp a2) (k1 r a0 (by omega))
      · exact kk.2.1 r r' x y a0 a1 b0 (by omega) a2 ((ef_cov e b0 (by omega)).mpr b2)
  refine ⟨r, ?_, by rw [e1', er]⟩
  unfold f_X11_at
  rw [bq, g0, bq, g1, dv_bn2 e1]
end QTV
section QTW
variable {V V' V1 V2 W W' : dV} {a r1 r2 : Int} {A : Nat → Int}
def nV (_ _ : Nat) : Bool := false
def nW (_ : Nat) : Bool := false
theorem apart_0 {D : Nat → Nat → Bool} : apart nV D = true := by
  unfold apart nV
  simp
/-- RR hangs on the class's objects in V and the reference's in W -/
theorem RR_VW (h : RR A a V W) (f : cf A nV V V') (g : wf a nW W W') : RR A a V' W' := by
  obtain ⟨h1, h2, h3, h4, h5, h6, h7, h8, h9, h10⟩ := h
  exact ⟨h1, G_c h2 (cf_ag f apart_0), stR_c (by decide) h3 (cf_ag f apart_0) (fun z _ => g 2 _ rfl), imR_c h4 (cf_ag f apart_0) (fun z => g 3 z rfl) (fun z => g 4 z rfl), tpR_c h5 (cf_ag f apart_0) (fun z => g 11 z rfl) (g 13 0 rfl), psR_c h6 (cf_ag f apart_0) (fun z => g 31 z rfl) (g 33 0 rfl), ppR_c h7 (cf_ag f apart_0) (fun z => g 54 z rfl) (g 55 0 rfl), miR_c h8 (cf_ag f apart_0) (g 0 0 rfl) (fun z => g 1 z rfl), taR_c h9 (cf_ag f apart_0) (g 14 0 rfl) (g 6 0 rfl) (g 47 0 rfl), rdR_c h10 (fun z => f 10 1 z (by decide) (by decide) rfl) (fun z _ => f 14 1 z (by decide) (by decide) rfl) (fun z => g 7 z rfl) (fun z => g 17 z rfl)⟩
/-- a call of the class, then a call of the reference -/
theorem glue {fV fW : dV → dR} (h : RR A a V V) (L : ∀ W, RR A a V W → ∃ V' W' u, fV V = (V', u) ∧ fW W = (W', u) ∧ RR A a V' W') (e1 : fV V = (V1, r1)) (g1 : wf a nW V V1) (e2 : fW V1 = (V2, r2)) (f2 : cf A nV V1 V2) : r1 = r2 ∧ RR A a V2 V2 := by
  obtain ⟨V', W', u, k1, k2, k3⟩ := L V1 (RR_VW h cf_r g1)
  rw [e1] at k1
  rw [e2] at k2
  have q1 : V' = V1 := (congrArg Prod.fst k1).symm
  have q2 : u = r1 := (congrArg Prod.snd k1).symm
  have q3 : W' = V2 := (congrArg Prod.fst k2).symm
  have q4 : u = r2 := (congrArg Prod.snd k2).symm
  subst q1 q3
  exact ⟨q2.symm.trans q4, RR_VW k3 f2 wf_r⟩
/-- a question to both -/
theorem glue_P {fV fW : dV → dP} (L : ∃ u, fV V = (u, ()) ∧ fW V = (u, ())) (e1 : fV V = (r1, ())) (e2 : fW V = (r2, ())) : r1 = r2 := by
  obtain ⟨u, k1, k2⟩ := L
  rw [e1] at k1
  rw [e2] at k2
  exact (congrArg Prod.fst k1).trans (congrArg Prod.fst k2).symm
/-- the class searches -/
theorem glue_C (h : RR A a V V) (f : cf A cs_L V V1) (hw : ∀ k, 8 ≤ k → k < 23 → -2147483648 ≤ V1 (A 14) 1 k ∧ V1 (A 14) 1 k ≤ 2147483647) (g1 : wf a nW V V1) : RR A a V1 V1 := RR_VW (RR_cs h f hw) cf_r g1
/-- the reference searches -/
theorem glue_S {fW : dV → dR} (h : RR A a V V) (L : ∃ (W' : dV) (u : Int), fW V = (W', u) ∧ sk_fr a V W') (e2 : fW V = (V2, r2)) (f2 : cf A nV V V2) : RR A a V2 V2 := by
  obtain ⟨W', u, k1, k2⟩ := L
  rw [e2] at k1
  have q : W' = V2 := (congrArg Prod.fst k1).symm
  subst q
  exact RR_VW (RR_sk h k2) f2 wf_r
theorem sk_of {fW : dV → dR} (L : ∃ (W' : dV) (u : Int), fW V = (W', u) ∧ sf_fr a V W') : ∃ (W' : dV) (u : Int), fW V = (W', u) ∧ sk_fr a V W' := by
  obtain ⟨W', u, k1, k2⟩ := L
  exact ⟨W', u, k1, sk_s k2⟩
end QTW
