section
/-- the class's objects, by another name -/
abbrev G_r (A : Nat → Int) (V : dV) : Prop := G A V
section LXN
variable {G : th_G} {Γ Γ1 Γ2 : th_Ga} {H H1 : Heap}
/-- a row that no field holds, an object with an owner -/
def lx_bad (G : th_G) (Γ : th_Ga) (H : Heap) (q : Nat) : Prop := match dv_own (Γ q).1 with
  | some (rk, j) => ¬ (Γ (Γ q).2 = (rk, 0) ∧ ∃ (k : Nat) (fs : List th_sp), th_ro rk = some (.inl (k, fs)) ∧ th_sl H (Γ q).2 (G.1.1.2 k j) = .ref q)
  | none => (Γ q).2 ≠ 0
/-- those lose their names -/
noncomputable def lx_un (G : th_G) (Γ : th_Ga) (H : Heap) : th_Ga := fun q => @ite (Nat × Nat) (lx_bad G Γ H q) (Classical.propDecidable _) (0, 0) (Γ q)
theorem lx_c {q r o : Nat} {d : th_De} (h : lx_un G Γ H q = (r, o)) (hd : th_ro r = some d) : Γ q = (r, o) ∧ ¬ lx_bad G Γ H q := by
  unfold lx_un at h
  by_cases w : lx_bad G Γ H q
  · rw [if_pos w] at h
    cases h
    cases hd
  · rw [if_neg w] at h
    exact ⟨h, w⟩
theorem lx_k {q : Nat} (w : ¬ lx_bad G Γ H q) : lx_un G Γ H q = Γ q := by
  unfold lx_un
  rw [if_neg w]
theorem lx_n {q : Nat} (h : th_ro (Γ q).1 = none) : th_ro (lx_un G Γ H q).1 = none := by
  unfold lx_un
  by_cases w : lx_bad G Γ H q
  · rw [if_pos w]; rfl
  · rw [if_neg w]; exact h
theorem lx_o {q r : Nat} (hg : Γ q = (r, 0)) (hr : dv_own r = none) : lx_un G Γ H q = (r, 0) := by
  have h1 : ¬ lx_bad G Γ H q := by
    unfold lx_bad
    rw [hg]
    simp [hr]
  rw [lx_k h1, hg]
theorem lx_r {q r o rk j k : Nat} {fs : List th_sp} (hg : Γ q = (r, o)) (hr : dv_own r = some (rk, j)) (ho : Γ o = (rk, 0)) (hk : th_ro rk = some (.inl (k, fs))) (hs : th_sl H o (G.1.1.2 k j) = .ref q) : lx_un G Γ H q = (r, o) := by
  have h1 : ¬ lx_bad G Γ H q := by
    unfold lx_bad
    rw [hg]
    simp only [hr]
    exact fun w => w ⟨ho, k, fs, hk, hs⟩
  rw [lx_k h1, hg]
theorem lx_on {r k : Nat} {fs : List th_sp} (hd : th_ro r = some (.inl (k, fs))) : dv_own r = none := by
  cases ho : dv_own r with
  | none => rfl
  | some x =>
    obtain ⟨rk, j⟩ := x
    obtain ⟨-, y, hy⟩ := dv_ow2 ho
    rw [hd] at hy
    cases hy
/-- what a role names, and doesn't own, is an object -/
def th_n3 (q : th_sp) : Bool := !(q.1 == 2 || q.1 == 3) || (dv_own q.2.1.toNat).isNone
def th_n3D (d : th_De) : Prop := match d with
  | .inl (_, fs) => ∀ (j : Nat) (q : th_sp), fs[j]? = some q → th_n3 q = true
  | .inr (_, _, _, es) => ∀ i : Nat, th_n3 (es i) = true ∧ (es i).1 ≠ 4
theorem th_n3_l {k : Nat} {fs : List th_sp} (h : fs.all th_n3 = true) : th_n3D (.inl (k, fs)) := fun j q hq => List.all_eq_true.mp h q (List.mem_of_getElem? hq)
theorem th_n3_0 {q : th_sp} (h : q.1 = 0) : th_n3 q = true ∧ q.1 ≠ 4 := by
  unfold th_n3
  rw [h]
  exact ⟨rfl, by decide⟩
theorem n3_1 : th_n3D (.inl (0, th_f1)) := th_n3_l (by decide)
theorem n3_2 : th_n3D (.inr (1, 200, 200, fun _ => (1, (-9223372036854775808), 9223372036854775807))) := fun _ => ⟨rfl, Nat.ne_of_beq_eq_false rfl⟩
theorem n3_3 : th_n3D (.inl (1, th_f3)) := th_n3_l (by decide)
theorem n3_4 : th_n3D (.inr (0, 9, 9, fun _ => (0, 0, 12))) := fun _ => ⟨rfl, Nat.ne_of_beq_eq_false rfl⟩
theorem n3_5 : th_n3D (.inr (0, 9, 9, fun _ => (0, (-2147483648), 2147483647))) := fun _ => ⟨rfl, Nat.ne_of_beq_eq_false rfl⟩
theorem n3_6 : th_n3D (.inr (0, 9, 9, fun _ => (0, (-2147483648), 2147483647))) := fun _ => ⟨rfl, Nat.ne_of_beq_eq_false rfl⟩
theorem n3_7 : th_n3D (.inr (0, 9, 9, fun _ => (0, (-2147483648), 2147483647))) := fun _ => ⟨rfl, Nat.ne_of_beq_eq_false rfl⟩
theorem n3_8 : th_n3D (.inr (0, 9, 9, fun _ => (0, (-2147483648), 2147483647))) := fun _ => ⟨rfl, Nat.ne_of_beq_eq_false rfl⟩
theorem n3_9 : th_n3D (.inr (0, 3, 3, fun _ => (0, (-2147483648), 2147483647))) := fun _ => ⟨rfl, Nat.ne_of_beq_eq_false rfl⟩
theorem n3_10 : th_n3D (.inr (0, 12, 12, fun _ => (0, (-2147483648), 2147483647))) := fun _ => ⟨rfl, Nat.ne_of_beq_eq_false rfl⟩
theorem n3_11 : th_n3D (.inl (2, th_f11)) := th_n3_l (by decide)
theorem n3_12 : th_n3D (.inl (3, th_f12)) := th_n3_l (by decide)
theorem n3_13 : th_n3D (.inr (1, 1024, 16384, fun _ => (1, (-9223372036854775808), 9223372036854775807))) := fun _ => ⟨rfl, Nat.ne_of_beq_eq_false rfl⟩
theorem n3_14 : th_n3D (.inr (0, 1024, 16384, fun _ => (0, (-2147483648), 2147483647))) := fun _ => ⟨rfl, Nat.ne_of_beq_eq_false rfl⟩
theorem n3_15 : th_n3D (.inr (0, 1024, 16384, fun _ => (0, (-2147483648), 2147483647))) := fun _ => ⟨rfl, Nat.ne_of_beq_eq_false rfl⟩
theorem n3_16 : th_n3D (.inr (0, 512, 8192, fun _ => (0, 0, 16383))) := fun _ => ⟨rfl, Nat.ne_of_beq_eq_false rfl⟩
theorem n3_17 : th_n3D (.inl (4, th_f17)) := th_n3_l (by decide)
theorem n3_18 : th_n3D (.inr (0, 480, 480, fun _ => (0, (-2147483648), 2147483647))) := fun _ => ⟨rfl, Nat.ne_of_beq_eq_false rfl⟩
theorem n3_19 : th_n3D (.inr (0, 480, 480, fun _ => (0, (-2147483648), 2147483647))) := fun _ => ⟨rfl, Nat.ne_of_beq_eq_false rfl⟩
theorem n3_20 : th_n3D (.inl (5, th_f20)) := th_n3_l (by decide)
theorem n3_21 : th_n3D (.inr (0, 401, 401, fun _ => (0, (-2147483648), 2147483647))) := fun _ => ⟨rfl, Nat.ne_of_beq_eq_false rfl⟩
theorem n3_22 : th_n3D (.inr (0, 401, 401, fun _ => (0, (-2147483648), 2147483647))) := fun _ => ⟨rfl, Nat.ne_of_beq_eq_false rfl⟩
theorem n3_23 : th_n3D (.inl (6, th_f23)) := th_n3_l (by decide)
theorem n3_24 : th_n3D (.inr (1, 64, 64, fun _ => (1, (-9223372036854775808), 9223372036854775807))) := fun _ => ⟨rfl, Nat.ne_of_beq_eq_false rfl⟩
theorem n3_25 : th_n3D (.inr (0, 23, 23, fun _ => (0, (-2147483648), 2147483647))) := fun _ => ⟨rfl, Nat.ne_of_beq_eq_false rfl⟩
theorem n3_26 : th_n3D (.inr (0, 3, 3, fun _ => (0, (-2147483648), 2147483647))) := fun _ => ⟨rfl, Nat.ne_of_beq_eq_false rfl⟩
theorem n3_27 : th_n3D (.inl (7, th_f27)) := th_n3_l (by decide)
theorem n3_28 : th_n3D (.inr (0, 1296, 1296, fun _ => (0, (-2147483648), 2147483647))) := fun _ => ⟨rfl, Nat.ne_of_beq_eq_false rfl⟩
theorem n3_29 : th_n3D (.inr (0, 1296, 1296, fun _ => (0, (-2147483648), 2147483647))) := fun _ => ⟨rfl, Nat.ne_of_beq_eq_false rfl⟩
theorem n3_30 : th_n3D (.inr (0, 1296, 1296, fun _ => (0, (-2147483648), 2147483647))) := fun _ => ⟨rfl, Nat.ne_of_beq_eq_false rfl⟩
theorem n3_31 : th_n3D (.inr (0, 9, 9, fun _ => (0, (-2147483648), 2147483647))) := fun _ => ⟨rfl, Nat.ne_of_beq_eq_false rfl⟩
theorem n3_32 : th_n3D (.inl (8, th_f32)) := th_n3_l (by decide)
theorem n3_33 : th_n3D (.inr (4, 6, 6, fun _ => (2, 39, 0))) := fun _ => ⟨rfl, Nat.ne_of_beq_eq_false rfl⟩
theorem n3_34 : th_n3D (.inr (0, 6, 6, fun _ => (0, (-2147483648), 2147483647))) := fun _ => ⟨rfl, Nat.ne_of_beq_eq_false rfl⟩
theorem n3_35 : th_n3D (.inr (0, 6, 6, fun _ => (0, (-2147483648), 2147483647))) := fun _ => ⟨rfl, Nat.ne_of_beq_eq_false rfl⟩
theorem n3_36 : th_n3D (.inr (0, 6, 6, fun _ => (0, (-2147483648), 2147483647))) := fun _ => ⟨rfl, Nat.ne_of_beq_eq_false rfl⟩
theorem n3_37 : th_n3D (.inl (9, th_f37)) := th_n3_l (by decide)
theorem n3_38 : th_n3D (.inr (0, 400, 400, fun _ => (0, (-2147483648), 2147483647))) := fun _ => ⟨rfl, Nat.ne_of_beq_eq_false rfl⟩
theorem n3_39 : th_n3D (.inl (10, th_f39)) := th_n3_l (by decide)
theorem n3_40 : th_n3D (.inr (0, 400, 400, fun _ => (0, 0, 2147483647))) := fun _ => ⟨rfl, Nat.ne_of_beq_eq_false rfl⟩
theorem n3_41 : th_n3D (.inr (0, 96, 96, th_esm)) := fun i => th_n3_0 (th_esm1 i)
theorem n3_42 : th_n3D (.inl (11, th_f42)) := th_n3_l (by decide)
theorem n3_43 : th_n3D (.inr (5, 2, 2, fun _ => (2, 32, 0))) := fun _ => ⟨rfl, Nat.ne_of_beq_eq_false rfl⟩
theorem n3_44 : th_n3D (.inr (2, 2, 2, fun _ => (0, 0, 1))) := fun _ => ⟨rfl, Nat.ne_of_beq_eq_false rfl⟩
theorem n3_45 : th_n3D (.inr (0, 5, 5, fun _ => (0, (-2147483648), 2147483647))) := fun _ => ⟨rfl, Nat.ne_of_beq_eq_false rfl⟩
theorem n3_46 : th_n3D (.inl (12, th_f46)) := th_n3_l (by decide)
theorem n3_47 : th_n3D (.inr (0, 7, 7, fun _ => (0, (-2147483648), 2147483647))) := fun _ => ⟨rfl, Nat.ne_of_beq_eq_false rfl⟩
theorem n3_48 : th_n3D (.inr (0, 5680, 5680, th_esk)) := fun i => th_n3_0 (th_esk1 i)
theorem n3_49 : th_n3D (.inr (0, 11360, 11360, th_esi)) := fun i => th_n3_0 (th_esi1 i)
theorem n3_50 : th_n3D (.inr (2, 2, 2, fun _ => (0, 0, 1))) := fun _ => ⟨rfl, Nat.ne_of_beq_eq_false rfl⟩
theorem n3_51 : th_n3D (.inr (0, 58, 58, fun _ => (0, (-2147483648), 2147483647))) := fun _ => ⟨rfl, Nat.ne_of_beq_eq_false rfl⟩
theorem n3_52 : th_n3D (.inr (3, 127, 127, th_esw)) := fun _ => ⟨rfl, Nat.ne_of_beq_eq_false rfl⟩
theorem n3_53 : th_n3D (.inr (3, 400, 400, fun _ => (0, (-128), 127))) := fun _ => ⟨rfl, Nat.ne_of_beq_eq_false rfl⟩
theorem n3_54 : th_n3D (.inr (0, 5, 5, fun _ => (0, (-2147483648), 2147483647))) := fun _ => ⟨rfl, Nat.ne_of_beq_eq_false rfl⟩
theorem n3_55 : th_n3D (.inr (0, 401, 401, fun _ => (0, (-2147483648), 2147483647))) := fun _ => ⟨rfl, Nat.ne_of_beq_eq_false rfl⟩
theorem n3_56 : th_n3D (.inr (0, 401, 401, fun _ => (0, (-2147483648), 2147483647))) := fun _ => ⟨rfl, Nat.ne_of_beq_eq_false rfl⟩
theorem n3_57 : th_n3D (.inr (0, 401, 401, fun _ => (0, 0, 400))) := fun _ => ⟨rfl, Nat.ne_of_beq_eq_false rfl⟩
theorem n3_58 : th_n3D (.inr (0, 8, 8, fun _ => (0, (-2147483648), 2147483647))) := fun _ => ⟨rfl, Nat.ne_of_beq_eq_false rfl⟩
theorem n3_59 : th_n3D (.inr (0, 12, 12, fun _ => (0, (-2147483648), 2147483647))) := fun _ => ⟨rfl, Nat.ne_of_beq_eq_false rfl⟩
theorem n3_60 : th_n3D (.inr (0, 9, 9, fun _ => (0, (-2147483648), 2147483647))) := fun _ => ⟨rfl, Nat.ne_of_beq_eq_false rfl⟩
theorem n3_61 : th_n3D (.inr (0, 480, 480, fun _ => (0, (-2147483648), 2147483647))) := fun _ => ⟨rfl, Nat.ne_of_beq_eq_false rfl⟩
theorem n3_62 : th_n3D (.inr (0, 480, 480, fun _ => (0, (-2147483648), 2147483647))) := fun _ => ⟨rfl, Nat.ne_of_beq_eq_false rfl⟩
theorem n3_63 : th_n3D (.inr (0, 1296, 1296, fun _ => (0, (-2147483648), 2147483647))) := fun _ => ⟨rfl, Nat.ne_of_beq_eq_false rfl⟩
theorem n3_64 : th_n3D (.inr (0, 9, 9, fun _ => (0, 0, 8))) := fun _ => ⟨rfl, Nat.ne_of_beq_eq_false rfl⟩
theorem n3_65 : th_n3D (.inr (0, 9, 9, fun _ => (0, 0, 143))) := fun _ => ⟨rfl, Nat.ne_of_beq_eq_false rfl⟩
theorem n3_66 : th_n3D (.inr (0, 9, 9, fun _ => (0, (-2147483648), 2147483647))) := fun _ => ⟨rfl, Nat.ne_of_beq_eq_false rfl⟩
theorem n3_67 : th_n3D (.inr (0, 1296, 1296, fun _ => (0, (-2147483648), 2147483647))) := fun _ => ⟨rfl, Nat.ne_of_beq_eq_false rfl⟩
theorem n3_68 : th_n3D (.inr (1, 21, 21, fun _ => (1, (-9223372036854775808), 9223372036854775807))) := fun _ => ⟨rfl, Nat.ne_of_beq_eq_false rfl⟩
theorem n3_69 : th_n3D (.inr (1, 3, 3, fun _ => (1, (-9223372036854775808), 9223372036854775807))) := fun _ => ⟨rfl, Nat.ne_of_beq_eq_false rfl⟩
theorem n3_70 : th_n3D (.inr (0, 29, 29, fun _ => (0, (-2147483648), 2147483647))) := fun _ => ⟨rfl, Nat.ne_of_beq_eq_false rfl⟩
theorem n3_71 : th_n3D (.inl (0, th_f71)) := th_n3_l (by decide)
theorem n3_72 : th_n3D (.inl (1, th_f72)) := th_n3_l (by decide)
theorem n3_73 : th_n3D (.inl (2, th_f73)) := th_n3_l (by decide)
theorem n3_74 : th_n3D (.inl (3, th_f74)) := th_n3_l (by decide)
theorem n3_75 : th_n3D (.inl (4, th_f75)) := th_n3_l (by decide)
theorem n3_76 : th_n3D (.inl (5, th_f76)) := th_n3_l (by decide)
theorem n3_77 : th_n3D (.inl (6, th_f77)) := th_n3_l (by decide)
theorem n3_78 : th_n3D (.inl (7, th_f78)) := th_n3_l (by decide)
theorem n3_79 : th_n3D (.inl (8, th_f79)) := th_n3_l (by decide)
theorem n3_80 : th_n3D (.inl (9, th_f80)) := th_n3_l (by decide)
theorem n3_81 : th_n3D (.inl (10, th_f81)) := th_n3_l (by decide)
theorem n3_82 : th_n3D (.inl (11, th_f82)) := th_n3_l (by decide)
theorem n3_83 : th_n3D (.inl (12, th_f83)) := th_n3_l (by decide)
theorem n3_84 : th_n3D (.inr (4, 6, 6, fun _ => (5, 0, 0))) := fun _ => ⟨rfl, Nat.ne_of_beq_eq_false rfl⟩
theorem n3_85 : th_n3D (.inr (5, 2, 2, fun _ => (5, 0, 0))) := fun _ => ⟨rfl, Nat.ne_of_beq_eq_false rfl⟩
theorem n3_86 : th_n3D (.inr (0, 5680, 5680, fun _ => (5, 0, 0))) := fun _ => ⟨rfl, Nat.ne_of_beq_eq_false rfl⟩
theorem n3_87 : th_n3D (.inr (0, 11360, 11360, fun _ => (5, 0, 0))) := fun _ => ⟨rfl, Nat.ne_of_beq_eq_false rfl⟩
theorem n3_88 : th_n3D (.inr (3, 127, 127, fun _ => (5, 0, 0))) := fun _ => ⟨rfl, Nat.ne_of_beq_eq_false rfl⟩
theorem th_n3_all : ∀ (r : Nat) (d : th_De), th_ro r = some d → th_n3D d
  | 0, _, h => by cases h
  | 1, _, h => by cases ro_1.symm.trans h; exact n3_1
  | 2, _, h => by cases ro_2.symm.trans h; exact n3_2
  | 3, _, h => by cases ro_3.symm.trans h; exact n3_3
  | 4, _, h => by cases ro_4.symm.trans h; exact n3_4
  | 5, _, h => by cases ro_5.symm.trans h; exact n3_5
  | 6, _, h => by cases ro_6.symm.trans h; exact n3_6
  | 7, _, h => by cases ro_7.symm.trans h; exact n3_7
  | 8, _, h => by cases ro_8.symm.trans h; exact n3_8
  | 9, _, h => by cases ro_9.symm.trans h; exact n3_9
  | 10, _, h => by cases ro_10.symm.trans h; exact n3_10
  | 11, _, h => by cases ro_11.symm.trans h; exact n3_11
  | 12, _, h => by cases ro_12.symm.trans h; exact n3_12
  | 13, _, h => by cases ro_13.symm.trans h; exact n3_13
  | 14, _, h => by cases ro_14.symm.trans h; exact n3_14
  | 15, _, h => by cases ro_15.symm.trans h; exact n3_15
  | 16, _, h => by cases ro_16.symm.trans h; exact n3_16
  | 17, _, h => by cases ro_17.symm.trans h; exact n3_17
  | 18, _, h => by cases ro_18.symm.trans h; exact n3_18
  | 19, _, h => by cases ro_19.symm.trans h; exact n3_19
  | 20, _, h => by cases ro_20.symm.trans h; exact n3_20
  | 21, _, h => by cases ro_21.symm.trans h; exact n3_21
  | 22, _, h => by cases ro_22.symm.trans h; exact n3_22
  | 23, _, h => by cases ro_23.symm.trans h; exact n3_23
  | 24, _, h => by cases ro_24.symm.trans h; exact n3_24
  | 25, _, h => by cases ro_25.symm.trans h; exact n3_25
  | 26, _, h => by cases ro_26.symm.trans h; exact n3_26
  | 27, _, h => by cases ro_27.symm.trans h; exact n3_27
  | 28, _, h => by cases ro_28.symm.trans h; exact n3_28
  | 29, _, h => by cases ro_29.symm.trans h; exact n3_29
  | 30, _, h => by cases ro_30.symm.trans h; exact n3_30
  | 31, _, h => by cases ro_31.symm.trans h; exact n3_31
  | 32, _, h => by cases ro_32.symm.trans h; exact n3_32
  | 33, _, h => by cases ro_33.symm.trans h; exact n3_33
  | 34, _, h => by cases ro_34.symm.trans h; exact n3_34
  | 35, _, h => by cases ro_35.symm.trans h; exact n3_35
  | 36, _, h => by cases ro_36.symm.trans h; exact n3_36
  | 37, _, h => by cases ro_37.symm.trans h; exact n3_37
  | 38, _, h => by cases ro_38.symm.trans h; exact n3_38
  | 39, _, h => by cases ro_39.symm.trans h; exact n3_39
  | 40, _, h => by cases ro_40.symm.trans h; exact n3_40
  | 41, _, h => by cases ro_41.symm.trans h; exact n3_41
  | 42, _, h => by cases ro_42.symm.trans h; exact n3_42
  | 43, _, h => by cases ro_43.symm.trans h; exact n3_43
  | 44, _, h => by cases ro_44.symm.trans h; exact n3_44
  | 45, _, h => by cases ro_45.symm.trans h; exact n3_45
  | 46, _, h => by cases ro_46.symm.trans h; exact n3_46
  | 47, _, h => by cases ro_47.symm.trans h; exact n3_47
  | 48, _, h => by cases ro_48.symm.trans h; exact n3_48
  | 49, _, h => by cases ro_49.symm.trans h; exact n3_49
  | 50, _, h => by cases ro_50.symm.trans h; exact n3_50
  | 51, _, h => by cases ro_51.symm.trans h; exact n3_51
  | 52, _, h => by cases ro_52.symm.trans h; exact n3_52
  | 53, _, h => by cases ro_53.symm.trans h; exact n3_53
  | 54, _, h => by cases ro_54.symm.trans h; exact n3_54
  | 55, _, h => by cases ro_55.symm.trans h; exact n3_55
  | 56, _, h => by cases ro_56.symm.trans h; exact n3_56
  | 57, _, h => by cases ro_57.symm.trans h; exact n3_57
  | 58, _, h => by cases ro_58.symm.trans h; exact n3_58
  | 59, _, h => by cases ro_59.symm.trans h; exact n3_59
  | 60, _, h => by cases ro_60.symm.trans h; exact n3_60
  | 61, _, h => by cases ro_61.symm.trans h; exact n3_61
  | 62, _, h => by cases ro_62.symm.trans h; exact n3_62
  | 63, _, h => by cases ro_63.symm.trans h; exact n3_63
  | 64, _, h => by cases ro_64.symm.trans h; exact n3_64
  | 65, _, h => by cases ro_65.symm.trans h; exact n3_65
  | 66, _, h => by cases ro_66.symm.trans h; exact n3_66
  | 67, _, h => by cases ro_67.symm.trans h; exact n3_67
  | 68, _, h => by cases ro_68.symm.trans h; exact n3_68
  | 69, _, h => by cases ro_69.symm.trans h; exact n3_69
  | 70, _, h => by cases ro_70.symm.trans h; exact n3_70
  | 71, _, h => by cases ro_71.symm.trans h; exact n3_71
  | 72, _, h => by cases ro_72.symm.trans h; exact n3_72
  | 73, _, h => by cases ro_73.symm.trans h; exact n3_73
  | 74, _, h => by cases ro_74.symm.trans h; exact n3_74
  | 75, _, h => by cases ro_75.symm.trans h; exact n3_75
  | 76, _, h => by cases ro_76.symm.trans h; exact n3_76
  | 77, _, h => by cases ro_77.symm.trans h; exact n3_77
  | 78, _, h => by cases ro_78.symm.trans h; exact n3_78
  | 79, _, h => by cases ro_79.symm.trans h; exact n3_79
  | 80, _, h => by cases ro_80.symm.trans h; exact n3_80
  | 81, _, h => by cases ro_81.symm.trans h; exact n3_81
  | 82, _, h => by cases ro_82.symm.trans h; exact n3_82
  | 83, _, h => by cases ro_83.symm.trans h; exact n3_83
  | 84, _, h => by cases ro_84.symm.trans h; exact n3_84
  | 85, _, h => by cases ro_85.symm.trans h; exact n3_85
  | 86, _, h => by cases ro_86.symm.trans h; exact n3_86
  | 87, _, h => by cases ro_87.symm.trans h; exact n3_87
  | 88, _, h => by cases ro_88.symm.trans h; exact n3_88
  | n + 89, _, h => by have h2 : th_rl[n + 88]? = none := List.getElem?_eq_none (Nat.le_add_left 88 n); cases h2.symm.trans h
theorem lx_s {a : Nat} {q : th_sp} {v : Value} (hn : th_n3 q = true) (h4 : q.1 = 4 → ∀ b : Nat, v = .ref b → Γ b = (q.2.1.toNat, a) → lx_un G Γ H b = (q.2.1.toNat, a)) (h : th_sat Γ a q v) : th_sat (lx_un G Γ H) a q v := by
  obtain ⟨t, lo, hi⟩ := q
  unfold th_n3 at hn
  unfold th_sat at h ⊢
  match t, hn, h4, h with
  | 0, _, _, h => exact h
  | 1, _, _, h => exact h
  | 2, hn, _, h =>
    obtain ⟨b, e1, e2⟩ := h
    exact ⟨b, e1, lx_o e2 (by simpa using hn)⟩
  | 3, hn, _, h =>
    rcases h with h | ⟨b, e1, e2⟩
    · exact Or.inl h
    · exact Or.inr ⟨b, e1, lx_o e2 (by simpa using hn)⟩
  | 4, _, h4, h =>
    obtain ⟨b, e1, e2⟩ := h
    exact ⟨b, e1, h4 rfl b e1 e2⟩
  | n + 5, _, _, _ => trivial
theorem lx_I (hI : th_I G Γ H) : th_I G (lx_un G Γ H) H := by
  intro a r o d hg hd
  obtain ⟨e1, nb⟩ := lx_c hg hd
  obtain ⟨g1, g2⟩ := hI a r o d e1 hd
  refine ⟨g1, ?_⟩
  have hn := th_n3_all r d hd
  rcases d with ⟨k, fs⟩ | ⟨t, n1, n2, es⟩
  · have hno := lx_on hd
    have ho : o = 0 := by
      unfold lx_bad at nb
      rw [e1] at nb
      simpa [hno] using nb
    subst ho
    refine ⟨g2.1, fun j q hq => lx_s (hn j q hq) (fun q4 b eb hb => ?_) (g2.2 j q hq)⟩
    exact lx_r hb (dv_ow hd hq q4).1 e1 hd eb
  · obtain ⟨n, h1, h2, h3, h4⟩ := g2
    exact ⟨n, h1, h2, h3, fun i hi => lx_s (hn i).1 (fun q4 => absurd q4 (hn i).2) (h4 i hi)⟩
theorem lx_RC (hc : ∀ (q r o : Nat) (d : th_De), Γ2 q = (r, o) → th_ro r = some d → Γ q = (r, o)) (hn : ∀ q : Nat, th_ro (Γ q).1 = none → th_ro (Γ2 q).1 = none) (hR : th_RC G Γ H) : th_RC G Γ2 H := by
  obtain ⟨r1, r2, r3, r4⟩ := hR
  refine ⟨fun a o ha => r1 a o (hc _ _ _ _ ha ro_3), fun b o hb => r2 b o (hb.elim (fun w => Or.inl (hc _ _ _ _ w ro_18)) (fun w => Or.inr (hc _ _ _ _ w ro_19))), fun a o ha => ?_, fun a a' o o' ha ha' => r4 a a' o o' (hc _ _ _ _ ha ro_12) (hc _ _ _ _ ha' ro_12)⟩
  obtain ⟨n, b1, b2, b3, b4, ⟨hn0, m0, m1, m2, m3, m4, hd, ⟨f1, p1, q1, s1⟩, ⟨f2, p2, q2, s2⟩, ⟨f3, p3, q3, s3⟩, ⟨f4, ⟨p4, q4, s4⟩, r5⟩, u, mu, hu5⟩, hms9⟩ := r3 a o (hc _ _ _ _ ha ro_12)
  exact ⟨n, b1, b2, b3, b4, ⟨hn0, m0, m1, m2, m3, m4, hd, ⟨f1, p1, hn _ q1, s1⟩, ⟨f2, p2, hn _ q2, s2⟩, ⟨f3, p3, hn _ q3, s3⟩, ⟨f4, ⟨p4, hn _ q4, s4⟩, r5⟩, u, mu, hu5⟩, hms9⟩
theorem lx_RN {am : Nat} (hR : th_RN am G Γ H) : th_RN am G (lx_un G Γ H) H := ⟨lx_RC (fun _ _ _ _ h hd => (lx_c h hd).1) (fun _ h => lx_n h) hR.1, hR.2⟩
theorem lx_U : dv_U (lx_un G Γ H) := by
  intro b r o rk j hb ho
  obtain ⟨⟨k, fs, q, hr, hq, q4, qr⟩, y, hy⟩ := dv_ow2 ho
  obtain ⟨e1, nb⟩ := lx_c hb hy
  have key : ∀ b : Nat, Γ b = (r, o) → ¬ lx_bad G Γ H b → Γ o = (rk, 0) ∧ th_sl H o (G.1.1.2 k j) = .ref b := fun b e1 nb => by
    unfold lx_bad at nb
    rw [e1] at nb
    simp only [ho] at nb
    obtain ⟨w1, k1, fs1, w2, w3⟩ := Classical.not_not.mp nb
    rw [hr] at w2
    cases w2
    exact ⟨w1, w3⟩
  obtain ⟨k1, k2⟩ := key b e1 nb
  refine ⟨lx_o k1 (lx_on hr), fun b' hb' => ?_⟩
  obtain ⟨e1', nb'⟩ := lx_c hb' hy
  have k3 := (key b' e1' nb').2
  rw [k2] at k3
  exact (Value.ref.inj k3).symm
theorem lx_bits {u : Nat} (h : th_bits G Γ H u) : th_bits G (lx_un G Γ H) H u := by
  obtain ⟨h1, a, h2, h3⟩ := h
  exact ⟨h1, a, lx_o h2 rfl, h3⟩
end LXN
end
section
section LXF
variable {G : th_G} {Γ Γ1 : th_Ga} {H H1 : Heap} {L : List (Nat × Nat)} {ax am : Nat}
def lw_off : List Nat := [0, 1, 91, 122, 2, 92, 123, 34, 42, 50, 52, 55, 58, 62, 63, 67, 70, 0, 0, 0, 14, 17, 20, 23, 26, 29, 104, 107, 110, 113, 116, 119, 135, 138, 141, 144, 147, 150]
def lw_rl : List Nat := [42, 32, 32, 32, 3, 3, 3, 3, 3, 37, 20, 39, 23, 11, 23, 17, 3, 0, 0, 0, 39, 39, 39, 39, 39, 39, 39, 39, 39, 39, 39, 39, 39, 39, 39, 39, 39, 39]
def lw_sp (i : Nat) : Bool := i == 17 || i == 18 || i == 19
/-- the class's objects, by number -/
def lw_A (ax : Nat) : Nat → Int := fun i => if lw_sp i = true then -(i : Int) else ((ax + lw_off.getD i 0 : Nat) : Int)
def lw_AR (Γ : th_Ga) (ax : Nat) : Prop := ∀ i : Nat, i < 38 → lw_sp i = false → Γ (ax + lw_off.getD i 0) = (lw_rl.getD i 0, 0)
theorem lw_spl {i : Nat} (h : lw_sp i = true) : 17 ≤ i := by
  unfold lw_sp at h
  simp at h
  omega
theorem lw_An {i : Nat} (h : lw_sp i = true) : lw_A ax i < 0 := by
  have := lw_spl h
  unfold lw_A
  rw [if_pos h]
  omega
theorem lw_Ae {i : Nat} (h : lw_sp i = false) : lw_A ax i = ((ax + lw_off.getD i 0 : Nat) : Int) := by
  unfold lw_A
  rw [if_neg (by rw [h]; decide)]
theorem lw_A0 : lw_A ax 0 = (ax : Int) := lw_Ae rfl
theorem lw_ap : ((List.range 38).all fun i => (List.range 38).all fun j => i == j || lw_sp i || lw_sp j || lw_off.getD i 0 != lw_off.getD j 0) = true := by decide +kernel
theorem lw_inj : inj (lw_A ax) := by
  refine ⟨fun i j hi hj e => ?_, fun i hi e => ?_⟩
  · cases si : lw_sp i with
    | true =>
      cases sj : lw_sp j with
      | true =>
        unfold lw_A at e
        rw [if_pos si, if_pos sj] at e
        omega
      | false =>
        have h := lw_An (ax := ax) si
        rw [e, lw_Ae sj] at h
        omega
    | false =>
      cases sj : lw_sp j with
      | true =>
        have h := lw_An (ax := ax) sj
        rw [← e, lw_Ae si] at h
        omega
      | false =>
        rw [lw_Ae si, lw_Ae sj] at e
        have h1 := List.all_eq_true.mp lw_ap i (List.mem_range.mpr hi)
        have h2 := List.all_eq_true.mp h1 j (List.mem_range.mpr hj)
        rw [si, sj] at h2
        have e2 : lw_off.getD i 0 = lw_off.getD j 0 := by omega
        rw [e2] at h2
        simpa using h2
  · cases si : lw_sp i with
    | true =>
      have := lw_spl si
      unfold lw_A at e
      rw [if_pos si] at e
      omega
    | false =>
      rw [lw_Ae si] at e
      omega
theorem lx_fr (hI : th_I G Γ H) (hI1 : th_I G Γ H1) (hF : th_F G Γ L H H1) {a r o k : Nat} {fs : List th_sp} (ha : Γ a = (r, o)) (hr : th_ro r = some (.inl (k, fs))) {m : Nat} (h : ∀ q : th_sp, fs[m]? = some q → th_in L r m = false ∧ (q.1 = 4 → th_in L q.2.1.toNat 0 = false)) (z : Int) : dv G Γ H1 (a : Int) m z = dv G Γ H (a : Int) m z := by
  cases hq : fs[m]? with
  | some q => exact dv_F hI hI1 hF rfl ha hr hq (h q hq).1 (h q hq).2
  | none =>
    have hno : ∀ H2 : Heap, dv G Γ H2 (a : Int) m z = 0 := fun H2 => dv_no (Or.inr (by
      rintro ⟨r', o', k', fs', q', w1, w2, w3⟩
      rw [Int.toNat_natCast, ha] at w1
      cases w1
      rw [hr] at w2
      cases w2
      rw [hq] at w3
      cases w3))
    rw [hno, hno]
/-- nothing of the class's objects is in L but what M leaves out -/
def lx_okA (M : Nat → Nat → Bool) (L : List (Nat × Nat)) : Bool := (List.range 38).all fun i => lw_sp i || (List.range 20).all fun m => M i m || (match th_ro (lw_rl.getD i 0) with
  | some (.inl (_, fs)) => (match fs[m]? with
    | some q => !th_in L (lw_rl.getD i 0) m && (!(q.1 == 4) || !th_in L q.2.1.toNat 0)
    | none => true)
  | _ => false)
theorem lw_cf {M : Nat → Nat → Bool} (hI : th_I G Γ H) (hI1 : th_I G Γ H1) (hF : th_F G Γ L H H1) (hA : lw_AR Γ ax) (hL : lx_okA M L = true) : cf (lw_A ax) M (dv G Γ H) (dv G Γ H1) := by
  intro i m z hi hm hM
  cases hs : lw_sp i with
  | true =>
    have hn := lw_An (ax := ax) hs
    rw [dv_no (Or.inl (Or.inl hn)), dv_no (Or.inl (Or.inl hn))]
  | false =>
    unfold lx_okA at hL
    have h1 := List.all_eq_true.mp hL i (List.mem_range.mpr hi)
    rw [hs, Bool.false_or] at h1
    have h2 := List.all_eq_true.mp h1 m (List.mem_range.mpr hm)
    rw [hM, Bool.false_or] at h2
    rw [lw_Ae hs]
    have ha := hA i hi hs
    generalize lw_rl.getD i 0 = r at ha h2
    cases hr : th_ro r with
    | none => rw [hr] at h2; cases h2
    | some d =>
      rw [hr] at h2
      rcases d with ⟨k, fs⟩ | y
      · refine lx_fr hI hI1 hF ha hr (fun q hq => ?_) z
        simp only [hq] at h2
        obtain ⟨w1, w2⟩ := Bool.and_eq_true_iff.mp h2
        refine ⟨by simpa using w1, fun q4 => ?_⟩
        simpa [q4] using w2
      · cases h2
def lw_okm (M : Nat → Bool) (L : List (Nat × Nat)) : Bool := (List.range 57).all fun m => M m || (match th_f46[m]? with
  | some q => !th_in L 46 m && (!(q.1 == 4) || !th_in L q.2.1.toNat 0)
  | none => true)
theorem lw_wf {M : Nat → Bool} (hI : th_I G Γ H) (hI1 : th_I G Γ H1) (hF : th_F G Γ L H H1) (ham : Γ am = (46, 0)) (hL : lw_okm M L = true) : wf (am : Int) M (dv G Γ H) (dv G Γ H1) := by
  intro m z hM
  refine lx_fr hI hI1 hF ham ro_46 (fun q hq => ?_) z
  have hm : m < 57 := (List.getElem?_eq_some_iff.mp hq).1
  unfold lw_okm at hL
  have h2 := List.all_eq_true.mp hL m (List.mem_range.mpr hm)
  rw [hM, Bool.false_or] at h2
  simp only [hq] at h2
  obtain ⟨w1, w2⟩ := Bool.and_eq_true_iff.mp h2
  refine ⟨by simpa using w1, fun q4 => ?_⟩
  simpa [q4] using w2
theorem lw_kw (hI : th_I G Γ H) {a : Nat} (ha : Γ a = (23, 0)) {k : Int} (h0 : 0 ≤ k) (h23 : k < 23) : -2147483648 ≤ dv G Γ H (a : Int) 1 k ∧ dv G Γ H (a : Int) 1 k ≤ 2147483647 := by
  rw [dv_at (A := (a : Int)) (r := 23) (o := 0) (by omega) h0 (by rw [Int.toNat_natCast]; exact ha) ro_23 (j := 1) rfl, if_pos rfl, Int.toNat_natCast]
  obtain ⟨b, e1, e2⟩ := dv_ptr (j := 1) hI ha ro_23 rfl rfl
  rw [e1]
  obtain ⟨-, n, h1, h2, h3, h4⟩ := hI b 25 a _ e2 ro_25
  obtain ⟨x, x1, x2, x3⟩ := h4 k.toNat (by omega)
  show -2147483648 ≤ dv_iv (th_sl H b k.toNat) ∧ dv_iv (th_sl H b k.toNat) ≤ 2147483647
  rw [x1]
  exact ⟨x2, x3⟩
theorem lw_kwA (hI : th_I G Γ H) (hA : lw_AR Γ ax) : ∀ k : Int, 8 ≤ k → k < 23 → -2147483648 ≤ dv G Γ H (lw_A ax 14) 1 k ∧ dv G Γ H (lw_A ax 14) 1 k ≤ 2147483647 := fun k h8 h23 => by
  rw [lw_Ae (show lw_sp 14 = false from rfl)]
  exact lw_kw hI (hA 14 (by decide) rfl) (by omega) h23
theorem lw_NG : NG (dv G Γ H) := fun b m z hz => dv_no (Or.inl (Or.inr hz))
/-- the floors but the sheet -/
def cs_F (i m : Nat) : Bool := cs_L i m || i == 4 || i == 5 || i == 6 || i == 7 || i == 16
theorem lw_sh (hI : th_I G Γ H) (ha : Γ ax = (42, 0)) (h : dv G Γ H (ax : Int) 4 0 = ((ax + 42 : Nat) : Int)) : th_sl H ax (G.1.1.2 11 4) = .ref (ax + 42) := by
  obtain ⟨b, e1, -⟩ := lw_fr hI ha ro_42 (j := 4) (r2 := 3) rfl
  have e := dv_getR (j := 4) ha ro_42 rfl e1 (by decide)
  rw [h] at e
  have e2 : b = ax + 42 := by omega
  rw [e1, e2]
theorem lw_shR (hI : th_I G Γ H) (ha : Γ ax = (42, 0)) {W : dV} {a : Int} (h : RR (lw_A ax) a (dv G Γ H) W) : th_sl H ax (G.1.1.2 11 4) = .ref (ax + 42) := lw_sh hI ha (by
  have e := h.2.1.1.2.2.2.2.1
  rw [lw_A0] at e
  exact e)
theorem RR_46 {A : Nat → Int} {a : Int} {V W W2 : dV} (h : RR A a V W) (g : wf a (fun m => m == 46) W W2) : RR A a V W2 := by
  obtain ⟨h1, h2, h3, h4, h5, h6, h7, h8, h9, h10⟩ := h
  exact ⟨h1, h2, stR_c (by decide) h3 (fun _ _ _ _ _ _ => rfl) (fun z _ => g 2 _ rfl), imR_c h4 (fun _ _ _ _ _ _ => rfl) (fun z => g 3 z rfl) (fun z => g 4 z rfl), tpR_c h5 (fun _ _ _ _ _ _ => rfl) (fun z => g 11 z rfl) (g 13 0 rfl), psR_c h6 (fun _ _ _ _ _ _ => rfl) (fun z => g 31 z rfl) (g 33 0 rfl), ppR_c h7 (fun _ _ _ _ _ _ => rfl) (fun z => g 54 z rfl) (g 55 0 rfl), miR_c h8 (fun _ _ _ _ _ _ => rfl) (g 0 0 rfl) (fun z => g 1 z rfl), taR_c h9 (fun _ _ _ _ _ _ => rfl) (g 14 0 rfl) (g 6 0 rfl) (g 47 0 rfl), rdR_c h10 (fun z => rfl) (fun z _ => rfl) (fun z => g 7 z rfl) (fun z => g 17 z rfl)⟩
end LXF
end
section
section LXT
variable {G : th_G} {Γ Γ1 : th_Ga} {H H1 : Heap} {L : List (Nat × Nat)} {ax am n : Nat} {f : Nat → Value}
def lx_T (G : th_G) (Γ : th_Ga) (H : Heap) : Prop := ∀ q r o : Nat, Γ q = (r, o) → r < 46 → (th_ro r).isSome = true → th_ini G H r q
theorem lx_p2 (hI : th_I G Γ H) {a r o k j r2 b : Nat} {fs : List th_sp} {hi : Int} (ha : Γ a = (r, o)) (hr : th_ro r = some (.inl (k, fs))) (hq : fs[j]? = some (2, (r2 : Int), hi)) (hp : th_sl H a (G.1.1.2 k j) = .ref b) : Γ b = (r2, 0) := by
  obtain ⟨b', e1, e2⟩ := lw_fr hI ha hr hq
  cases hp.symm.trans e1
  exact e2
theorem lx_p4 (hI : th_I G Γ H) {a r o k j r2 b : Nat} {fs : List th_sp} {hi : Int} (ha : Γ a = (r, o)) (hr : th_ro r = some (.inl (k, fs))) (hq : fs[j]? = some (4, (r2 : Int), hi)) (hp : th_sl H a (G.1.1.2 k j) = .ref b) : Γ b = (r2, a) := by
  obtain ⟨b', e1, e2⟩ := th_fo hI ha hr hq
  cases hp.symm.trans e1
  exact e2
theorem lx_pe (hI : th_I G Γ H) {b r o t n1 n2 i r2 c : Nat} {es : Nat → th_sp} {lo : Int} (hb : Γ b = (r, o)) (hr : th_ro r = some (.inr (t, n1, n2, es))) (hi : i < n1) (he : es i = (2, (r2 : Int), lo)) (hp : th_sl H b i = .ref c) : Γ c = (r2, 0) := by
  obtain ⟨-, n, h1, h2, h3, h4⟩ := hI b r o _ hb hr
  have h5 := h4 i (by omega)
  rw [he, hp] at h5
  obtain ⟨b', e1, e2⟩ := h5
  cases e1
  simpa using e2
theorem lx_fld (hT : lx_T G Γ H) {a r k j : Nat} {fs : List th_sp} {q : th_sp} {x : Int32} (ha : Γ a = (r, 0)) (h46 : r < 46) (hs : (th_ro r).isSome = true) (hr : th_ro r = some (.inl (k, fs))) (hk : (th_iv r).1 = k) (hq : fs[j]? = some q) (h4 : q.1 ≠ 4) (hm : (j, x) ∈ (th_iv r).2) : dv G Γ H (a : Int) j 0 = x.toInt := by
  have e := (hT a r 0 ha h46 hs).1 j x hm
  rw [hk] at e
  exact dv_getI ha hr hq e h4
theorem lx_row (hI : th_I G Γ H) (hU : dv_U Γ) (hT : lx_T G Γ H) {a r k j r2 n : Nat} {fs : List th_sp} {g : Nat → Int32} {hi : Int} (ha : Γ a = (r, 0)) (hr : th_ro r = some (.inl (k, fs))) (hq : fs[j]? = some (4, (r2 : Int), hi)) (ho : dv_own r2 = some (r, j)) (h46 : r2 < 46) (hs : (th_ro r2).isSome = true) (hf : th_ir r2 = some (n, g)) {z : Int} (z0 : 0 ≤ z) (z1 : z < n) : dv G Γ H (a : Int) j z = (g z.toNat).toInt := by
  obtain ⟨b, e1, e2⟩ := th_fo hI ha hr hq
  exact dv_aldI hI hU e2 ho ((hT b r2 a e2 h46 hs).2.1 n g hf z.toNat (by omega)) z0
theorem lx_out {b i N : Nat} {c : ClassId} {g : Nat → Value} (e : H[b]? = some (arrV c N g)) (h : N ≤ i) : th_sl H b i = .null := by
  have e2 : (arrV c N g).slots[i]? = none := Array.getElem?_eq_none (by rw [arrV_size]; exact h)
  unfold th_sl
  rw [e]
  show ((arrV c N g).slots[i]?).getD .null = .null
  rw [e2]
  rfl
theorem lx_mf (hM : th_M0 G H am n f) (ham : Γ am = (46, 0)) {j : Nat} {q : th_sp} {x : Int32} (hj : j < 57) (hq : th_f46[j]? = some q) (h4 : q.1 ≠ 4) (hv : mo_V0 n j = .int x) : dv G Γ H (am : Int) j 0 = x.toInt := dv_getI ham ro_46 hq ((hM.1 j hj).trans hv) h4
theorem lx_mr (hM : th_M0 G H am n f) (ham : Γ am = (46, 0)) {j i t N : Nat} {g : Nat → Value} {q : th_sp} (hj : j < 57) (hq : th_f46[j]? = some q) (h4 : q.1 = 4) (hv : mo_V0 n j = .ref (n + i)) (hx : (mq_4 f)[i]? = some (t, N, g)) {z : Int} (z0 : 0 ≤ z) : dv G Γ H (am : Int) j z = if z < N then dv_iv (g z.toNat) else -1 := by
  rw [dv_at (A := (am : Int)) (r := 46) (o := 0) (by omega) z0 (by rw [Int.toNat_natCast]; exact ham) ro_46 hq, if_pos h4, Int.toNat_natCast, (hM.1 j hj).trans hv]
  show dv_iv (th_sl H (n + i) z.toNat) = _
  have e := hM.2 i _ hx
  dsimp only at e
  by_cases w : z < N
  · rw [if_pos w, th_sl_at e (arrV_read _ _ (by omega))]
  · rw [if_neg w, lx_out e (by omega)]; rfl
theorem lx_wt : WT = th_wl := by decide
theorem lx_wd (hI : th_I G Γ H) (hU : dv_U Γ) (ham : Γ am = (46, 0)) {z : Int} (z0 : 0 ≤ z) (z1 : z < 127) : dv G Γ H (am : Int) 7 z = WT.getD z.toNat 0 := by
  obtain ⟨b, e1, e2⟩ := th_fo hI ham ro_46 (j := 7) (r2 := 52) rfl
  obtain ⟨-, n, h1, h2, h3, h4⟩ := hI b 52 am _ e2 ro_52
  obtain ⟨x, x1, x2, x3⟩ := h4 z.toNat (by omega)
  rw [dv_aldI hI hU e2 ow_52 x1 z0, lx_wt]
  have e3 : th_esw z.toNat = (0, th_wl.getD z.toNat 0, th_wl.getD z.toNat 0) := rfl
  rw [e3] at x2 x3
  exact Int.le_antisymm x3 x2
theorem lx_kp {z : Int} (z0 : 0 ≤ z) : dv_iv (mk_4 z.toNat) = if z = 65 then 1 else if z = 67 then 8 else if z = 68 then 8 else if z = 72 then -1 else 0 := by
  unfold mk_4 updV
  by_cases h1 : z = 72
  · subst h1; rfl
  rw [if_neg (show ¬ z.toNat = 72 by omega)]
  by_cases h2 : z = 68
  · subst h2; rfl
  rw [if_neg (show ¬ z.toNat = 68 by omega)]
  by_cases h3 : z = 67
  · subst h3; rfl
  rw [if_neg (show ¬ z.toNat = 67 by omega)]
  by_cases h4 : z = 65
  · subst h4; rfl
  rw [if_neg (show ¬ z.toNat = 65 by omega), if_neg h4, if_neg h3, if_neg h2, if_neg h1]
  rfl
/-- a stand's floor, its laws' texts -/
theorem lx_st (hI : th_I G Γ H) (hT : lx_T G Γ H) {s : Nat} (hs : Γ s = (32, 0)) : (Γ (s + 1) = (3, 0) ∧ th_sl H s (G.1.1.2 8 0) = .ref (s + 1)) ∧ (Γ (s + 9) = (33, s) ∧ th_sl H s (G.1.1.2 8 1) = .ref (s + 9)) ∧ (Γ (s + 13) = (39, 0) ∧ th_sl H (s + 9) 0 = .ref (s + 13)) ∧ (Γ (s + 16) = (39, 0) ∧ th_sl H (s + 9) 1 = .ref (s + 16)) ∧ (Γ (s + 19) = (39, 0) ∧ th_sl H (s + 9) 2 = .ref (s + 19)) ∧ (Γ (s + 22) = (39, 0) ∧ th_sl H (s + 9) 3 = .ref (s + 22)) ∧ (Γ (s + 25) = (39, 0) ∧ th_sl H (s + 9) 4 = .ref (s + 25)) ∧ (Γ (s + 28) = (39, 0) ∧ th_sl H (s + 9) 5 = .ref (s + 28)) := by
  have p := (hT s 32 0 hs (by decide) rfl).2.2.1
  have p0 : th_sl H s (G.1.1.2 8 0) = .ref (s + 1) := p 0 1 (by decide)
  have p1 : th_sl H s (G.1.1.2 8 1) = .ref (s + 9) := p 1 9 (by decide)
  have g1 : Γ (s + 9) = (33, s) := lx_p4 hI hs ro_32 (j := 1) (r2 := 33) rfl p1
  have q := (hT (s + 9) 33 s g1 (by decide) rfl).2.2.2
  have q0 : th_sl H (s + 9) 0 = .ref (s + 13) := (q 0 4 (by decide)).trans (congrArg Value.ref (show s + 9 + 4 = s + 13 by omega))
  have q1 : th_sl H (s + 9) 1 = .ref (s + 16) := (q 1 7 (by decide)).trans (congrArg Value.ref (show s + 9 + 7 = s + 16 by omega))
  have q2 : th_sl H (s + 9) 2 = .ref (s + 19) := (q 2 10 (by decide)).trans (congrArg Value.ref (show s + 9 + 10 = s + 19 by omega))
  have q3 : th_sl H (s + 9) 3 = .ref (s + 22) := (q 3 13 (by decide)).trans (congrArg Value.ref (show s + 9 + 13 = s + 22 by omega))
  have q4 : th_sl H (s + 9) 4 = .ref (s + 25) := (q 4 16 (by decide)).trans (congrArg Value.ref (show s + 9 + 16 = s + 25 by omega))
  have q5 : th_sl H (s + 9) 5 = .ref (s + 28) := (q 5 19 (by decide)).trans (congrArg Value.ref (show s + 9 + 19 = s + 28 by omega))
  exact ⟨⟨lx_p2 hI hs ro_32 (j := 0) (r2 := 3) rfl p0, p0⟩, ⟨g1, p1⟩, ⟨lx_pe hI g1 ro_33 (i := 0) (r2 := 39) (by decide) rfl q0, q0⟩, ⟨lx_pe hI g1 ro_33 (i := 1) (r2 := 39) (by decide) rfl q1, q1⟩, ⟨lx_pe hI g1 ro_33 (i := 2) (r2 := 39) (by decide) rfl q2, q2⟩, ⟨lx_pe hI g1 ro_33 (i := 3) (r2 := 39) (by decide) rfl q3, q3⟩, ⟨lx_pe hI g1 ro_33 (i := 4) (r2 := 39) (by decide) rfl q4, q4⟩, ⟨lx_pe hI g1 ro_33 (i := 5) (r2 := 39) (by decide) rfl q5, q5⟩⟩
set_option maxHeartbeats 4000000 in
theorem lx_tree (hI : th_I G Γ H) (hU : dv_U Γ) (hT : lx_T G Γ H) (hax : Γ ax = (42, 0)) : lw_AR Γ ax ∧ G_r (lw_A ax) (dv G Γ H) := by
  have p := (hT ax 42 0 hax (by decide) rfl).2.2.1
  have p0 : th_sl H ax (G.1.1.2 11 0) = .ref (ax + 1) := p 0 1 (by decide)
  have h1 : Γ (ax + 1) = (32, 0) := lx_p2 hI hax ro_42 (j := 0) (r2 := 32) rfl p0
  have p1 : th_sl H ax (G.1.1.2 11 1) = .ref (ax + 32) := p 1 32 (by decide)
  have h32 : Γ (ax + 32) = (43, ax) := lx_p4 hI hax ro_42 (j := 1) (r2 := 43) rfl p1
  have p3 : th_sl H ax (G.1.1.2 11 3) = .ref (ax + 34) := p 3 34 (by decide)
  have h34 : Γ (ax + 34) = (3, 0) := lx_p2 hI hax ro_42 (j := 3) (r2 := 3) rfl p3
  have p4 : th_sl H ax (G.1.1.2 11 4) = .ref (ax + 42) := p 4 42 (by decide)
  have h42 : Γ (ax + 42) = (3, 0) := lx_p2 hI hax ro_42 (j := 4) (r2 := 3) rfl p4
  have p5 : th_sl H ax (G.1.1.2 11 5) = .ref (ax + 50) := p 5 50 (by decide)
  have h50 : Γ (ax + 50) = (37, 0) := lx_p2 hI hax ro_42 (j := 5) (r2 := 37) rfl p5
  have p6 : th_sl H ax (G.1.1.2 11 6) = .ref (ax + 52) := p 6 52 (by decide)
  have h52 : Γ (ax + 52) = (20, 0) := lx_p2 hI hax ro_42 (j := 6) (r2 := 20) rfl p6
  have p7 : th_sl H ax (G.1.1.2 11 7) = .ref (ax + 55) := p 7 55 (by decide)
  have h55 : Γ (ax + 55) = (39, 0) := lx_p2 hI hax ro_42 (j := 7) (r2 := 39) rfl p7
  have p8 : th_sl H ax (G.1.1.2 11 8) = .ref (ax + 58) := p 8 58 (by decide)
  have h58 : Γ (ax + 58) = (23, 0) := lx_p2 hI hax ro_42 (j := 8) (r2 := 23) rfl p8
  have p9 : th_sl H ax (G.1.1.2 11 9) = .ref (ax + 62) := p 9 62 (by decide)
  have h62 : Γ (ax + 62) = (11, 0) := lx_p2 hI hax ro_42 (j := 9) (r2 := 11) rfl p9
  have p10 : th_sl H ax (G.1.1.2 11 10) = .ref (ax + 67) := p 10 67 (by decide)
  have h67 : Γ (ax + 67) = (17, 0) := lx_p2 hI hax ro_42 (j := 10) (r2 := 17) rfl p10
  have qi := (hT (ax + 32) 43 ax h32 (by decide) rfl).2.2.2
  have i0 : th_sl H (ax + 32) 0 = .ref (ax + 91) := (qi 0 59 (by decide)).trans (congrArg Value.ref (show ax + 32 + 59 = ax + 91 by omega))
  have h91 : Γ (ax + 91) = (32, 0) := lx_pe hI h32 ro_43 (i := 0) (r2 := 32) (by decide) rfl i0
  have i1 : th_sl H (ax + 32) 1 = .ref (ax + 122) := (qi 1 90 (by decide)).trans (congrArg Value.ref (show ax + 32 + 90 = ax + 122 by omega))
  have h122 : Γ (ax + 122) = (32, 0) := lx_pe hI h32 ro_43 (i := 1) (r2 := 32) (by decide) rfl i1
  obtain ⟨⟨f1, e1⟩, ⟨l1, m1⟩, ⟨t1_0, u1_0⟩, ⟨t1_1, u1_1⟩, ⟨t1_2, u1_2⟩, ⟨t1_3, u1_3⟩, ⟨t1_4, u1_4⟩, ⟨t1_5, u1_5⟩⟩ := lx_st hI hT h1
  obtain ⟨⟨f91, e91⟩, ⟨l91, m91⟩, ⟨t91_0, u91_0⟩, ⟨t91_1, u91_1⟩, ⟨t91_2, u91_2⟩, ⟨t91_3, u91_3⟩, ⟨t91_4, u91_4⟩, ⟨t91_5, u91_5⟩⟩ := lx_st hI hT h91
  obtain ⟨⟨f122, e122⟩, ⟨l122, m122⟩, ⟨t122_0, u122_0⟩, ⟨t122_1, u122_1⟩, ⟨t122_2, u122_2⟩, ⟨t122_3, u122_3⟩, ⟨t122_4, u122_4⟩, ⟨t122_5, u122_5⟩⟩ := lx_st hI hT h122
  have pj : th_sl H (ax + 62) (G.1.1.2 2 0) = .ref (ax + 62 + 1) := (hT _ 11 0 h62 (by decide) rfl).2.2.1 0 1 (by decide)
  have hj : Γ (ax + 62 + 1) = (23, 0) := lx_p2 hI h62 ro_11 (j := 0) (r2 := 23) rfl pj
  have pp : th_sl H (ax + 67) (G.1.1.2 4 2) = .ref (ax + 67 + 3) := (hT _ 17 0 h67 (by decide) rfl).2.2.1 2 3 (by decide)
  have hp : Γ (ax + 67 + 3) = (3, 0) := lx_p2 hI h67 ro_17 (j := 2) (r2 := 3) rfl pp
  refine ⟨fun i hi hs => ?_, ?_⟩
  · match i, hi, hs with
    | 0, _, _ => exact hax
    | 1, _, _ => exact h1
    | 2, _, _ => exact h91
    | 3, _, _ => exact h122
    | 4, _, _ => exact f1
    | 5, _, _ => exact f91
    | 6, _, _ => exact f122
    | 7, _, _ => exact h34
    | 8, _, _ => exact h42
    | 9, _, _ => exact h50
    | 10, _, _ => exact h52
    | 11, _, _ => exact h55
    | 12, _, _ => exact h58
    | 13, _, _ => exact h62
    | 14, _, _ => exact hj
    | 15, _, _ => exact h67
    | 16, _, _ => exact hp
    | 17, _, w => cases w
    | 18, _, w => cases w
    | 19, _, w => cases w
    | 20, _, _ => exact t1_0
    | 21, _, _ => exact t1_1
    | 22, _, _ => exact t1_2
    | 23, _, _ => exact t1_3
    | 24, _, _ => exact t1_4
    | 25, _, _ => exact t1_5
    | 26, _, _ => exact t91_0
    | 27, _, _ => exact t91_1
    | 28, _, _ => exact t91_2
    | 29, _, _ => exact t91_3
    | 30, _, _ => exact t91_4
    | 31, _, _ => exact t91_5
    | 32, _, _ => exact t122_0
    | 33, _, _ => exact t122_1
    | 34, _, _ => exact t122_2
    | 35, _, _ => exact t122_3
    | 36, _, _ => exact t122_4
    | 37, _, _ => exact t122_5
    | n + 38, w, _ => exact absurd w (by omega)
  · refine ⟨⟨?_, ?_, ?_, ?_, ?_, ?_, ?_, ?_, ?_, ?_, ?_⟩, ?_, ?_, fun k hk => ?_⟩
    · show dv G Γ H (ax : Int) 0 0 = ((ax + 1 : Nat) : Int); exact dv_getR (j := 0) hax ro_42 rfl p0 (by decide)
    · show dv G Γ H (ax : Int) 1 ((0 : Nat) : Int) = ((ax + 91 : Nat) : Int); exact dv_aldR hI hU h32 ow_43 i0 (by decide)
    · show dv G Γ H (ax : Int) 1 ((1 : Nat) : Int) = ((ax + 122 : Nat) : Int); exact dv_aldR hI hU h32 ow_43 i1 (by decide)
    · show dv G Γ H (ax : Int) 3 0 = ((ax + 34 : Nat) : Int); exact dv_getR (j := 3) hax ro_42 rfl p3 (by decide)
    · show dv G Γ H (ax : Int) 4 0 = ((ax + 42 : Nat) : Int); exact dv_getR (j := 4) hax ro_42 rfl p4 (by decide)
    · show dv G Γ H (ax : Int) 5 0 = ((ax + 50 : Nat) : Int); exact dv_getR (j := 5) hax ro_42 rfl p5 (by decide)
    · show dv G Γ H (ax : Int) 6 0 = ((ax + 52 : Nat) : Int); exact dv_getR (j := 6) hax ro_42 rfl p6 (by decide)
    · show dv G Γ H (ax : Int) 7 0 = ((ax + 55 : Nat) : Int); exact dv_getR (j := 7) hax ro_42 rfl p7 (by decide)
    · show dv G Γ H (ax : Int) 8 0 = ((ax + 58 : Nat) : Int); exact dv_getR (j := 8) hax ro_42 rfl p8 (by decide)
    · show dv G Γ H (ax : Int) 9 0 = ((ax + 62 : Nat) : Int); exact dv_getR (j := 9) hax ro_42 rfl p9 (by decide)
    · show dv G Γ H (ax : Int) 10 0 = ((ax + 67 : Nat) : Int); exact dv_getR (j := 10) hax ro_42 rfl p10 (by decide)
    · show dv G Γ H ((ax + 62 : Nat) : Int) 0 0 = ((ax + 63 : Nat) : Int); exact dv_getR (j := 0) h62 ro_11 rfl pj (by decide)
    · show dv G Γ H ((ax + 67 : Nat) : Int) 2 0 = ((ax + 70 : Nat) : Int); exact dv_getR (j := 2) h67 ro_17 rfl pp (by decide)
    · match k, hk with
      | 0, _ =>
        refine ⟨?_, fun t ht => ?_⟩
        · show dv G Γ H ((ax + 1 : Nat) : Int) 0 0 = ((ax + 2 : Nat) : Int); exact dv_getR (j := 0) h1 ro_32 rfl e1 (by decide)
        · match t, ht with
          | 0, _ => show dv G Γ H ((ax + 1 : Nat) : Int) 1 ((0 : Nat) : Int) = ((ax + 14 : Nat) : Int); exact dv_aldR hI hU l1 ow_33 u1_0 (by decide)
          | 1, _ => show dv G Γ H ((ax + 1 : Nat) : Int) 1 ((1 : Nat) : Int) = ((ax + 17 : Nat) : Int); exact dv_aldR hI hU l1 ow_33 u1_1 (by decide)
          | 2, _ => show dv G Γ H ((ax + 1 : Nat) : Int) 1 ((2 : Nat) : Int) = ((ax + 20 : Nat) : Int); exact dv_aldR hI hU l1 ow_33 u1_2 (by decide)
          | 3, _ => show dv G Γ H ((ax + 1 : Nat) : Int) 1 ((3 : Nat) : Int) = ((ax + 23 : Nat) : Int); exact dv_aldR hI hU l1 ow_33 u1_3 (by decide)
          | 4, _ => show dv G Γ H ((ax + 1 : Nat) : Int) 1 ((4 : Nat) : Int) = ((ax + 26 : Nat) : Int); exact dv_aldR hI hU l1 ow_33 u1_4 (by decide)
          | 5, _ => show dv G Γ H ((ax + 1 : Nat) : Int) 1 ((5 : Nat) : Int) = ((ax + 29 : Nat) : Int); exact dv_aldR hI hU l1 ow_33 u1_5 (by decide)
          | n + 6, w => exact absurd w (by omega)
      | 1, _ =>
        refine ⟨?_, fun t ht => ?_⟩
        · show dv G Γ H ((ax + 91 : Nat) : Int) 0 0 = ((ax + 92 : Nat) : Int); exact dv_getR (j := 0) h91 ro_32 rfl e91 (by decide)
        · match t, ht with
          | 0, _ => show dv G Γ H ((ax + 91 : Nat) : Int) 1 ((0 : Nat) : Int) = ((ax + 104 : Nat) : Int); exact dv_aldR hI hU l91 ow_33 u91_0 (by decide)
          | 1, _ => show dv G Γ H ((ax + 91 : Nat) : Int) 1 ((1 : Nat) : Int) = ((ax + 107 : Nat) : Int); exact dv_aldR hI hU l91 ow_33 u91_1 (by decide)
          | 2, _ => show dv G Γ H ((ax + 91 : Nat) : Int) 1 ((2 : Nat) : Int) = ((ax + 110 : Nat) : Int); exact dv_aldR hI hU l91 ow_33 u91_2 (by decide)
          | 3, _ => show dv G Γ H ((ax + 91 : Nat) : Int) 1 ((3 : Nat) : Int) = ((ax + 113 : Nat) : Int); exact dv_aldR hI hU l91 ow_33 u91_3 (by decide)
          | 4, _ => show dv G Γ H ((ax + 91 : Nat) : Int) 1 ((4 : Nat) : Int) = ((ax + 116 : Nat) : Int); exact dv_aldR hI hU l91 ow_33 u91_4 (by decide)
          | 5, _ => show dv G Γ H ((ax + 91 : Nat) : Int) 1 ((5 : Nat) : Int) = ((ax + 119 : Nat) : Int); exact dv_aldR hI hU l91 ow_33 u91_5 (by decide)
          | n + 6, w => exact absurd w (by omega)
      | 2, _ =>
        refine ⟨?_, fun t ht => ?_⟩
        · show dv G Γ H ((ax + 122 : Nat) : Int) 0 0 = ((ax + 123 : Nat) : Int); exact dv_getR (j := 0) h122 ro_32 rfl e122 (by decide)
        · match t, ht with
          | 0, _ => show dv G Γ H ((ax + 122 : Nat) : Int) 1 ((0 : Nat) : Int) = ((ax + 135 : Nat) : Int); exact dv_aldR hI hU l122 ow_33 u122_0 (by decide)
          | 1, _ => show dv G Γ H ((ax + 122 : Nat) : Int) 1 ((1 : Nat) : Int) = ((ax + 138 : Nat) : Int); exact dv_aldR hI hU l122 ow_33 u122_1 (by decide)
          | 2, _ => show dv G Γ H ((ax + 122 : Nat) : Int) 1 ((2 : Nat) : Int) = ((ax + 141 : Nat) : Int); exact dv_aldR hI hU l122 ow_33 u122_2 (by decide)
          | 3, _ => show dv G Γ H ((ax + 122 : Nat) : Int) 1 ((3 : Nat) : Int) = ((ax + 144 : Nat) : Int); exact dv_aldR hI hU l122 ow_33 u122_3 (by decide)
          | 4, _ => show dv G Γ H ((ax + 122 : Nat) : Int) 1 ((4 : Nat) : Int) = ((ax + 147 : Nat) : Int); exact dv_aldR hI hU l122 ow_33 u122_4 (by decide)
          | 5, _ => show dv G Γ H ((ax + 122 : Nat) : Int) 1 ((5 : Nat) : Int) = ((ax + 150 : Nat) : Int); exact dv_aldR hI hU l122 ow_33 u122_5 (by decide)
          | n + 6, w => exact absurd w (by omega)
      | n + 3, w => exact absurd w (by omega)
/-- all is new: class and reference stand alike -/
theorem lx_RR (hI : th_I G Γ H) (hU : dv_U Γ) (hT : lx_T G Γ H) (hax : Γ ax = (42, 0)) (ham : Γ am = (46, 0)) (hM : th_M0 G H am n f) : RR (lw_A ax) (am : Int) (dv G Γ H) (dv G Γ H) := by
  obtain ⟨hA, hG⟩ := lx_tree hI hU hT hax
  have a4 : lw_A ax 4 = ((ax + lw_off.getD 4 0 : Nat) : Int) := lw_Ae rfl
  have a1 : lw_A ax 1 = ((ax + lw_off.getD 1 0 : Nat) : Int) := lw_Ae rfl
  have a0 : lw_A ax 0 = ((ax + lw_off.getD 0 0 : Nat) : Int) := lw_Ae rfl
  have a9 : lw_A ax 9 = ((ax + lw_off.getD 9 0 : Nat) : Int) := lw_Ae rfl
  have a15 : lw_A ax 15 = ((ax + lw_off.getD 15 0 : Nat) : Int) := lw_Ae rfl
  have a7 : lw_A ax 7 = ((ax + lw_off.getD 7 0 : Nat) : Int) := lw_Ae rfl
  have a10 : lw_A ax 10 = ((ax + lw_off.getD 10 0 : Nat) : Int) := lw_Ae rfl
  refine RR_0 lw_inj hG (fun c c0 c9 => ?_) ?_ ?_ ?_ (fun z z0 z1 => ?_) (fun k hk => ?_) ?_ ?_ ?_ (fun c c0 c9 => ?_) (fun z z0 z1 => ?_) (fun z z0 z1 => ?_) (fun z z0 z1 => ?_) ?_ ?_ (fun z => ?_) (fun z z0 z1 => ?_) (lw_kwA hI hA)
  · rw [a4]; exact ⟨(lx_row (j := 0) (r2 := 4) hI hU hT (hA 4 (by decide) rfl) ro_3 rfl ow_4 (by decide) rfl rfl c0 c9), (lx_row (j := 1) (r2 := 5) hI hU hT (hA 4 (by decide) rfl) ro_3 rfl ow_5 (by decide) rfl rfl c0 c9), (lx_row (j := 2) (r2 := 6) hI hU hT (hA 4 (by decide) rfl) ro_3 rfl ow_6 (by decide) rfl rfl c0 c9), (lx_row (j := 3) (r2 := 7) hI hU hT (hA 4 (by decide) rfl) ro_3 rfl ow_7 (by decide) rfl rfl c0 c9), (lx_row (j := 4) (r2 := 8) hI hU hT (hA 4 (by decide) rfl) ro_3 rfl ow_8 (by decide) rfl rfl c0 c9)⟩
  · rw [a4]; exact ⟨(lx_row (j := 5) (r2 := 9) hI hU hT (hA 4 (by decide) rfl) ro_3 rfl ow_9 (by decide) rfl rfl (z := 0) (by decide) (by decide)), (lx_row (j := 5) (r2 := 9) hI hU hT (hA 4 (by decide) rfl) ro_3 rfl ow_9 (by decide) rfl rfl (z := 1) (by decide) (by decide)), (lx_row (j := 5) (r2 := 9) hI hU hT (hA 4 (by decide) rfl) ro_3 rfl ow_9 (by decide) rfl rfl (z := 2) (by decide) (by decide))⟩
  · rw [a4]; exact ⟨(lx_fld (j := 7) (x := 0) hT (hA 4 (by decide) rfl) (by decide) rfl ro_3 rfl rfl (by decide) (by decide)), (lx_fld (j := 8) (x := 8) hT (hA 4 (by decide) rfl) (by decide) rfl ro_3 rfl rfl (by decide) (by decide)), (lx_fld (j := 9) (x := 8) hT (hA 4 (by decide) rfl) (by decide) rfl ro_3 rfl rfl (by decide) (by decide)), (lx_fld (j := 10) (x := 0) hT (hA 4 (by decide) rfl) (by decide) rfl ro_3 rfl rfl (by decide) (by decide))⟩
  · rw [a1]; exact ⟨(lx_fld (j := 5) (x := 0) hT (hA 1 (by decide) rfl) (by decide) rfl ro_32 rfl rfl (by decide) (by decide)), (lx_fld (j := 6) (x := (-1)) hT (hA 1 (by decide) rfl) (by decide) rfl ro_32 rfl rfl (by decide) (by decide)), (lx_fld (j := 7) (x := 0) hT (hA 1 (by decide) rfl) (by decide) rfl ro_32 rfl rfl (by decide) (by decide))⟩
  · rw [(lx_mr (j := 2) (i := 1) hM ham (by decide) rfl rfl rfl rfl z0), if_pos (by omega)]; exact lx_kp z0
  · rw [a0]; exact ⟨(lx_row (j := 2) (r2 := 44) hI hU hT (hA 0 (by decide) rfl) ro_42 rfl ow_44 (by decide) rfl rfl (by omega) (by omega)), by rw [(lx_mr (j := 4) (i := 3) hM ham (by decide) rfl rfl rfl rfl (by omega)), if_pos (by omega)]; rfl⟩
  · rw [a9]; exact ⟨(lx_fld (j := 1) (x := 0) hT (hA 9 (by decide) rfl) (by decide) rfl ro_37 rfl rfl (by decide) (by decide)), (lx_mf (j := 13) (x := 0) hM ham (by decide) rfl (by decide) rfl)⟩
  · rw [a15]; exact ⟨(lx_fld (j := 4) (x := 0) hT (hA 15 (by decide) rfl) (by decide) rfl ro_17 rfl rfl (by decide) (by decide)), (lx_mf (j := 33) (x := 0) hM ham (by decide) rfl (by decide) rfl)⟩
  · rw [a7]; exact ⟨(lx_fld (j := 7) (x := 0) hT (hA 7 (by decide) rfl) (by decide) rfl ro_3 rfl rfl (by decide) (by decide)), Or.inr (lx_mf (j := 55) (x := (-1)) hM ham (by decide) rfl (by decide) rfl)⟩
  · rw [a7]; exact ⟨(lx_row (j := 2) (r2 := 6) hI hU hT (hA 7 (by decide) rfl) ro_3 rfl ow_6 (by decide) rfl rfl c0 c9), (lx_row (j := 3) (r2 := 7) hI hU hT (hA 7 (by decide) rfl) ro_3 rfl ow_7 (by decide) rfl rfl c0 c9), (lx_row (j := 4) (r2 := 8) hI hU hT (hA 7 (by decide) rfl) ro_3 rfl ow_8 (by decide) rfl rfl c0 c9)⟩
  · rw [(lx_mr (j := 54) (i := 23) hM ham (by decide) rfl rfl rfl rfl z0), if_pos (by omega)]; rfl
  · rw [a0]; exact (lx_row (j := 13) (r2 := 45) hI hU hT (hA 0 (by decide) rfl) ro_42 rfl ow_45 (by decide) rfl rfl z0 z1)
  · rw [(lx_mr (j := 1) (i := 0) hM ham (by decide) rfl rfl rfl rfl z0), if_pos (by omega)]; rfl
  · rw [a0]; exact (lx_fld (j := 14) (x := 0) hT (hA 0 (by decide) rfl) (by decide) rfl ro_42 rfl rfl (by decide) (by decide)).trans (lx_mf (j := 0) (x := 0) hM ham (by decide) rfl (by decide) rfl).symm
  · rw [a0]; exact ⟨(lx_fld (j := 15) (x := (-1)) hT (hA 0 (by decide) rfl) (by decide) rfl ro_42 rfl rfl (by decide) (by decide)).trans (lx_mf (j := 14) (x := (-1)) hM ham (by decide) rfl (by decide) rfl).symm, (lx_fld (j := 16) (x := 0) hT (hA 0 (by decide) rfl) (by decide) rfl ro_42 rfl rfl (by decide) (by decide)).trans (lx_mf (j := 6) (x := 0) hM ham (by decide) rfl (by decide) rfl).symm, (lx_fld (j := 17) (x := (-1)) hT (hA 0 (by decide) rfl) (by decide) rfl ro_42 rfl rfl (by decide) (by decide)).trans (lx_mf (j := 47) (x := (-1)) hM ham (by decide) rfl (by decide) rfl).symm⟩
  · rw [a10]
    by_cases z0 : 0 ≤ z
    case neg => rw [dv_no (Or.inl (Or.inr (by omega))), dv_no (Or.inl (Or.inr (by omega)))]
    rw [(lx_mr (j := 17) (i := 10) hM ham (by decide) rfl rfl rfl rfl z0)]
    by_cases z1 : z < 401
    · rw [if_pos (by omega)]; exact (lx_row (j := 1) (r2 := 22) hI hU hT (hA 10 (by decide) rfl) ro_20 rfl ow_22 (by decide) rfl rfl z0 (by omega))
    · rw [if_neg (by omega)]
      obtain ⟨b, e1, e2⟩ := th_fo hI (hA 10 (by decide) rfl) ro_20 (j := 1) (r2 := 22) rfl
      obtain ⟨-, n, h1, h2, h3, h4⟩ := hI b 22 _ _ e2 ro_22
      rw [dv_row hI hU e2 ow_22 z0, lx_out h3 (by omega)]
      rfl
  · exact lx_wd hI hU ham z0 z1
end LXT
end
section
section LXS
variable {G : th_G} {Γ Γ1 : th_Ga} {H H1 : Heap} {L : List (Nat × Nat)} {ax am : Nat} {t t1 : Int} {W : dV}
def lx_rd (G : th_G) (Γ : th_Ga) (ax : Nat) (t : Int) (H : Heap) : Prop := dv G Γ H (ax : Int) 11 0 = ((ax + 78 : Nat) : Int) ∧ rdB (dv G Γ H) ((ax + 78 : Nat) : Int) t
def lx_M (Γ : th_Ga) : Int → Prop := fun b => ∃ a o : Nat, b = (a : Int) ∧ Γ a = (12, o)
def lx_ok3 (L : List (Nat × Nat)) : Bool := !th_in L 42 11 && !th_in L 27 6 && !th_in L 27 2 && !th_in L 29 0
theorem lx_rdm (h : lx_rd G Γ ax t H) (k : t ≤ t1) : lx_rd G Γ ax t1 H := ⟨h.1, ⟨h.2.1.1, Int.le_trans h.2.1.2 k⟩, h.2.2⟩
theorem lx_rdF (hI : th_I G Γ H) (hI1 : th_I G Γ H1) (hF : th_F G Γ L H H1) (hax : Γ ax = (42, 0)) (hsa : Γ (ax + 78) = (27, 0)) (hL : lx_ok3 L = true) (k : t ≤ t1) (h : lx_rd G Γ ax t H) : lx_rd G Γ ax t1 H1 := by
  unfold lx_ok3 at hL
  simp only [Bool.and_eq_true, Bool.not_eq_true'] at hL
  obtain ⟨⟨⟨l1, l2⟩, l3⟩, l4⟩ := hL
  have e11 := lx_fr hI hI1 hF hax ro_42 (m := 11) (fun q hq => ⟨l1, fun q4 => by have e9 := Option.some.inj hq; subst e9; cases q4⟩) 0
  have e6 := lx_fr hI hI1 hF hsa ro_27 (m := 6) (fun q hq => ⟨l2, fun q4 => by have e9 := Option.some.inj hq; subst e9; cases q4⟩) 0
  have e2 := fun z => lx_fr hI hI1 hF hsa ro_27 (m := 2) (fun q hq => ⟨l3, fun _ => by have e9 := Option.some.inj hq; subst e9; exact l4⟩) z
  refine ⟨e11.trans h.1, ⟨?_, ?_⟩, fun z => ?_⟩
  · rw [e6]; exact h.2.1.1
  · rw [e6]; exact Int.le_trans h.2.1.2 k
  · rw [e6, e2]; exact h.2.2 z
theorem lx_sn (hI : th_I G Γ H) {a m r : Nat} {hi : Int} (ha : Γ a = (32, 0)) (hm : th_f32[m]? = some (4, (r : Int), hi)) (hr : th_ro r = some (.inr (0, 6, 6, fun _ => ((0, (-2147483648), 2147483647) : th_sp)))) (z : Int) : -2147483648 ≤ dv G Γ H (a : Int) m z ∧ dv G Γ H (a : Int) m z ≤ 2147483647 := by
  by_cases z0 : 0 ≤ z
  case neg => rw [dv_no (Or.inl (Or.inr (by omega)))]; decide
  rw [dv_at (A := (a : Int)) (r := 32) (o := 0) (by omega) z0 (by rw [Int.toNat_natCast]; exact ha) ro_32 hm, if_pos rfl, Int.toNat_natCast]
  obtain ⟨b, e1, e2⟩ := th_fo hI ha ro_32 hm
  rw [e1]
  obtain ⟨-, n, h1, h2, h3, h4⟩ := hI b r a _ e2 hr
  show -2147483648 ≤ dv_iv (th_sl H b z.toNat) ∧ dv_iv (th_sl H b z.toNat) ≤ 2147483647
  by_cases z6 : z < 6
  · obtain ⟨x, x1, x2, x3⟩ := h4 z.toNat (by omega)
    rw [x1]
    exact ⟨x2, x3⟩
  · rw [lx_out h3 (by omega)]; decide
theorem lx_rl : ((List.range 38).all fun i => lw_rl.getD i 0 != 27 && lw_rl.getD i 0 != 12) = true := by decide +kernel
theorem lx_RS (hI : th_I G Γ H) (hA : lw_AR Γ ax) (hsa : Γ (ax + 78) = (27, 0)) (hq : RR (lw_A ax) (am : Int) (dv G Γ H) W) (hr : lx_rd G Γ ax t H) : RS (lw_A ax) (am : Int) ((ax + 78 : Nat) : Int) t (lx_M Γ) (dv G Γ H) W := by
  have key : ∀ i : Nat, i < 38 → ∀ a r o : Nat, lw_A ax i = (a : Int) → Γ a = (r, o) → r ≠ 27 ∧ r ≠ 12 := fun i hi a r o e g => by
    cases hs : lw_sp i with
    | true =>
      have := lw_An (ax := ax) hs
      omega
    | false =>
      rw [lw_Ae hs] at e
      have e2 : a = ax + lw_off.getD i 0 := by omega
      rw [e2, hA i hi hs] at g
      have h1 := List.all_eq_true.mp lx_rl i (List.mem_range.mpr hi)
      have e3 : lw_rl.getD i 0 = r := congrArg Prod.fst g
      rw [e3] at h1
      simpa using h1
  refine ⟨hq, ⟨by rw [lw_A0]; exact hr.1, by omega, fun i hi e => (key i hi (ax + 78) 27 0 e hsa).1 rfl⟩, ⟨?_, ?_, fun i hi => ?_⟩, hr.2, fun m z => dv_no (Or.inl (Or.inl (by decide))), fun z => ?_⟩
  · rintro ⟨a, o, e, g⟩
    have e2 : a = ax + 78 := by omega
    rw [e2, hsa] at g
    cases g
  · rintro ⟨a, o, e, g⟩
    omega
  · rintro ⟨a, o, e, g⟩
    exact (key i hi a 12 o e g).2 rfl
  · rw [lw_Ae (show lw_sp 1 = false from rfl)]
    exact ⟨lx_sn hI (hA 1 (by decide) rfl) (m := 2) (r := 34) rfl ro_34 z, lx_sn hI (hA 1 (by decide) rfl) (m := 3) (r := 35) rfl ro_35 z⟩
/-- at the start -/
theorem lx_rd0 (hI : th_I G Γ H) (hU : dv_U Γ) (hT : lx_T G Γ H) (hax : Γ ax = (42, 0)) : Γ (ax + 78) = (27, 0) ∧ lx_rd G Γ ax 0 H := by
  have p11 : th_sl H ax (G.1.1.2 11 11) = .ref (ax + 78) := (hT ax 42 0 hax (by decide) rfl).2.2.1 11 78 (by decide)
  have h78 : Γ (ax + 78) = (27, 0) := lx_p2 hI hax ro_42 (j := 11) (r2 := 27) rfl p11
  have e6 : dv G Γ H ((ax + 78 : Nat) : Int) 6 0 = (0 : Int32).toInt := lx_fld (j := 6) (x := 0) hT h78 (by decide) rfl ro_27 rfl rfl (by decide) (by decide)
  have e6 : dv G Γ H ((ax + 78 : Nat) : Int) 6 0 = 0 := e6
  refine ⟨h78, dv_getR (j := 11) hax ro_42 rfl p11 (by decide), ⟨?_, ?_⟩, fun z => ?_⟩
  · rw [e6]; exact Int.le_refl 0
  · rw [e6]; exact Int.le_refl 0
  · rw [e6]
    by_cases z0 : 0 ≤ z
    case neg => rw [dv_no (Or.inl (Or.inr (by omega)))]; exact Int.le_refl 0
    by_cases z1 : z < 1296
    · have e := lx_row (j := 2) (r2 := 29) (z := z) hI hU hT h78 ro_27 rfl ow_29 (by decide) rfl rfl z0 (by omega)
      rw [e]
      decide
    · obtain ⟨b, e1, e2⟩ := th_fo hI h78 ro_27 (j := 2) (r2 := 29) rfl
      obtain ⟨-, n, h1, h2, h3, h4⟩ := hI b 29 _ _ e2 ro_29
      rw [dv_row hI hU e2 ow_29 z0, lx_out h3 (by omega)]
      decide
end LXS
end
section
section LW2
variable {p : Program} {l : Launch} {e : Env} {R : Room} {s : State} {m : MethodId} {args : Array Value} {below : List Frame} {meth : Method} {c : Code} {H H0 H1 : Heap} {locs : List Loc} {cells slots : Nat} {Q : State → Prop}
variable {cc : ByteArray} {pc : Nat} {ls : Array Slot} {rest : List Value} {G : th_G} {Γ Γ0 Γ1 : th_Ga}
/-- what the law's loop stands on -/
def lw_E (p : Program) (s : State) (m : MethodId) (c : Code) (b L : Nat) (xs : Nat → Int32) (G : th_G) (Γ : th_Ga) (ax am : Nat) : Prop := th_C p s m #[Value.ref b] c cL_law 4 RL G ∧ G.1.2.2 = s.heap.size ∧ th_Z G s s.heap ∧ va_X b L xs s s.heap ∧ b < s.heap.size ∧ Γ ax = (42, 0) ∧ Γ am = (46, 0) ∧ ∀ a a1 o o1 : Nat, Γ a = (20, o) → Γ a1 = (20, o1) → a = a1
/-- what it keeps -/
def lw_J (G : th_G) (Γ : th_Ga) (am : Nat) (s : State) (H : Heap) (locs : List Loc) (u : Nat) : Prop := th_I G Γ H ∧ th_RN am G Γ H ∧ th_bits G Γ H u ∧ va_S (fun q => G.1.2.2 ≤ q) s.heap H locs
theorem lw_hA {b L ax am : Nat} {xs : Nat → Int32} (hE : lw_E p s m c b L xs G Γ ax am) : ¬ (fun q : Nat => G.1.2.2 ≤ q) b := by
  show ¬ G.1.2.2 ≤ b
  rw [hE.2.1]
  exact Nat.not_le.mpr hE.2.2.2.2.1
/-- script[i + k] -/
theorem lw_ld {b L ax am n kn pc1 pc2 pc3 pc4 pc' : Nat} {xs : Nat → Int32} (hE : lw_E p s m c b L xs G Γ ax am) (hS : va_S (fun q => G.1.2.2 ≤ q) s.heap H locs) (hl : lv_has ls 4 [(3, .int (nI n)), (2, .ref am), (1, .ref ax), (0, .ref b)]) (hn : n + 6 ≤ L) (hL : L ≤ 384) {k : Int} (d0 : decode cL_law pc = .ok (.aload_n 0, 1)) (h1 : pc + 1 = pc1) (d1 : decode cL_law pc1 = .ok (.iload_n 3, 1)) (h2 : pc1 + 1 = pc2) (d2 : decode cL_law pc2 = .ok (.iconst k, 1)) (hk : Int32.ofInt k = nI kn) (hk5 : kn ≤ 5) (h3 : pc2 + 1 = pc3) (d3 : decode cL_law pc3 = .ok (.iadd, 1)) (h4 : pc3 + 1 = pc4) (d4 : decode cL_law pc4 = .ok (.iaload, 1)) (h5 : pc4 + 1 = pc')
    (kk : W p l e R s m #[Value.ref b] below meth c H locs cells slots Q (F0 m pc' ls (.int (xs (n + kn)) :: rest))) : W p l e R s m #[Value.ref b] below meth c H locs cells slots Q (F0 m pc ls rest) := by
  subst h1 h2 h3 h4 h5
  have hx := hE.1.1
  have hb := hE.1.2.1
  refine lv_aload_n hx hb d0 rfl (lv_at hl 3 rfl) ?_
  refine lv_iload_n hx hb d1 rfl (lv_at hl 0 rfl) ?_
  refine lv_iconst hx hb d2 hk ?_
  refine lv_iadd hx hb d3 ?_
  rw [nI_add]
  refine va_sld hx hb hE.2.2.2.1 hE.2.2.2.2.1 (lw_hA hE) hS (vp_in_nI (by omega) (by omega)) d4 ?_
  rw [nI_clamp (by omega)]
  exact kk
theorem lw_call {post : Option Value → Heap → Prop} {a : Array Value} {st0 : List Value} {u am k pc' : Nat} {P : Value → Heap → Prop} (hJ : lw_J G Γ am s H locs u) (hr : va_Run p l e R s m args below meth c H locs cells slots 0 0 (F0 m pc ls st0) rest (th_Q post G a) (fun q => G.1.2.2 ≤ q)) (hp : ∀ (v : Option Value) (H1 : Heap), post v H1 → ∃ w : Value, v = some w ∧ w.category = k ∧ th_I G Γ H1 ∧ th_RN am G Γ H1 ∧ th_bits G Γ H1 u ∧ P w H1) (h3 : pc + 3 = pc')
    (kk : ∀ (w : Value) (H1 : Heap) (locs1 : List Loc), w.category = k → lw_J G Γ am s H1 locs1 u → P w H1 → W p l e R s m args below meth c H1 locs1 cells slots Q (F0 m pc' ls (w :: rest))) : W p l e R s m args below meth c H locs cells slots Q (F0 m pc ls st0) := by
  subst h3
  refine th_call hr hJ.2.2.2 (fun v H1 locs1 h hz hS => ?_)
  obtain ⟨w, rfl, h1, h2, h3, h4, h5⟩ := hp v H1 h
  exact kk w H1 locs1 h1 ⟨h2, h3, h4, hS⟩ h5
/-- a call that may let the memo grow -/
theorem lw_callb {post : Option Value → Heap → Prop} {a : Array Value} {st0 : List Value} {u am k pc' : Nat} {P : Value → Heap → Prop} (hJ : lw_J G Γ am s H locs u) (hr : va_Run p l e R s m args below meth c H locs (600000 - th_pc u) (7302250 - th_pq u) (th_pc u) (th_pq u) (F0 m pc ls st0) rest (th_Q post G a) (fun q => G.1.2.2 ≤ q)) (hp : ∀ (v : Option Value) (H1 : Heap), post v H1 → ∃ w : Value, v = some w ∧ w.category = k ∧ th_I G Γ H1 ∧ th_RN am G Γ H1 ∧ th_bp G Γ H H1 u ∧ P w H1) (h3 : pc + 3 = pc')
    (kk : ∀ (u1 : Nat) (w : Value) (H1 : Heap) (locs1 : List Loc), w.category = k → lw_J G Γ am s H1 locs1 u1 → P w H1 → W p l e R s m args below meth c H1 locs1 (600000 - th_pc u1) (7302250 - th_pq u1) Q (F0 m pc' ls (w :: rest))) : W p l e R s m args below meth c H locs (600000 - th_pc u) (7302250 - th_pq u) Q (F0 m pc ls st0) := by
  subst h3
  refine W.count (fun hc1 hc2 => ?_)
  have h8 := lw_pcb hJ.2.2.1.1
  refine th_call hr hJ.2.2.2 (fun v H1 locs1 h hz hS => ?_)
  obtain ⟨w, rfl, h1, h2, h3, ⟨u1, b1, b2, b3, b4, b5⟩, h6⟩ := hp v H1 h
  have h9 := lw_pcb b1.1
  refine W.tight (k := 600000 - th_pc u1) (n := 7302250 - th_pq u1) (by omega) (by omega) ?_
  exact kk u1 w H1 locs1 h1 ⟨h2, h3, b1, hS⟩ h6
theorem lw_f1 (a : Nat) : 600000 - a + 0 ≤ room_1.cells := Nat.sub_le 600000 a
theorem lw_f2 (a : Nat) : 7302250 - a + 0 ≤ room_1.slots := Nat.sub_le 7302250 a
theorem lw_f3 {u : Nat} (h : u = 10 ∨ u = 12 ∨ u = 14) : 600000 - th_pc u + th_pc u ≤ room_1.cells := by
  have := lw_pcb h
  show 600000 - th_pc u + th_pc u ≤ 600000
  omega
theorem lw_f4 {u : Nat} (h : u = 10 ∨ u = 12 ∨ u = 14) : 7302250 - th_pq u + th_pq u ≤ room_1.slots := by
  have := lw_pcb h
  show 7302250 - th_pq u + th_pq u ≤ 7302250
  omega
end LW2
end
