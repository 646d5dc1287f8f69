/-- the class's objects, by another name -/
abbrev G_r (A : Nat → Int) (V : dV) : Prop := G A V
section LXN
variable {G : th_G} {Γ Γ1 Γ2 : th_Ga} {H H1 : Heap}
/-- a row that no field holds, an object with an owner -/
def lx_bad (G : th_G) (Γ : th_Ga) (H : Heap) (q : Nat) : Prop := match dv_own (Γ q).1 with
  | some (rk, j) => ¬ (Γ (Γ q).2 = (rk, 0) ∧ ∃ (k : Nat) (fs : List th_sp), th_ro rk = some (.inl (k, fs)) ∧ th_sl H (Γ q).2 (G.1.2 k j) = .ref q)
  | none => (Γ q).2 ≠ 0
/-- those lose their names -/
noncomputable def lx_un (G : th_G) (Γ : th_Ga) (H : Heap) : th_Ga := fun q => @ite (Nat × Nat) (lx_bad G Γ H q) (Classical.propDecidable _) (0, 0) (Γ q)
theorem lx_c {q r o : Nat} {d : th_De} (h : lx_un G Γ H q = (r, o)) (hd : th_ro r = some d) : Γ q = (r, o) ∧ ¬ lx_bad G Γ H q := by
  unfold lx_un at h
  by_cases w : lx_bad G Γ H q
  · rw [if_pos w] at h
    cases h
    cases hd
  · rw [if_neg w] at h
    exact ⟨h, w⟩
theorem lx_k {q : Nat} (w : ¬ lx_bad G Γ H q) : lx_un G Γ H q = Γ q := by
  unfold lx_un
  rw [if_neg w]
theorem lx_n {q : Nat} (h : th_ro (Γ q).1 = none) : th_ro (lx_un G Γ H q).1 = none := by
  unfold lx_un
  by_cases w : lx_bad G Γ H q
  · rw [if_pos w]; rfl
  · rw [if_neg w]; exact h
theorem lx_o {q r : Nat} (hg : Γ q = (r, 0)) (hr : dv_own r = none) : lx_un G Γ H q = (r, 0) := by
  have h1 : ¬ lx_bad G Γ H q := by
    unfold lx_bad
    rw [hg]
    simp [hr]
  rw [lx_k h1, hg]
theorem lx_r {q r o rk j k : Nat} {fs : List th_sp} (hg : Γ q = (r, o)) (hr : dv_own r = some (rk, j)) (ho : Γ o = (rk, 0)) (hk : th_ro rk = some (.inl (k, fs))) (hs : th_sl H o (G.1.2 k j) = .ref q) : lx_un G Γ H q = (r, o) := by
  have h1 : ¬ lx_bad G Γ H q := by
    unfold lx_bad
    rw [hg]
    simp only [hr]
    exact fun w => w ⟨ho, k, fs, hk, hs⟩
  rw [lx_k h1, hg]
theorem lx_on {r k : Nat} {fs : List th_sp} (hd : th_ro r = some (.inl (k, fs))) : dv_own r = none := by
  cases ho : dv_own r with
  | none => rfl
  | some x =>
    obtain ⟨rk, j⟩ := x
    obtain ⟨-, y, hy⟩ := dv_ow2 ho
    rw [hd] at hy
    cases hy
/-- what a role names, and doesn't own, is an object -/
def th_n3 (q : th_sp) : Bool := !(q.1 == 2 || q.1 == 3) || (dv_own q.2.1.toNat).isNone
def th_n3D (d : th_De) : Prop := match d with
  | .inl (_, fs) => ∀ (j : Nat) (q : th_sp), fs[j]? = some q → th_n3 q = true
  | .inr (_, _, _, es) => ∀ i : Nat, th_n3 (es i) = true ∧ (es i).1 ≠ 4
theorem th_n3_l {k : Nat} {fs : List th_sp} (h : fs.all th_n3 = true) : th_n3D (.inl (k, fs)) := fun j q hq => List.all_eq_true.mp h q (List.mem_of_getElem? hq)
theorem th_n3_0 {q : th_sp} (h : q.1 = 0) : th_n3 q = true ∧ q.1 ≠ 4 := by
  unfold th_n3
  rw [h]
  exact ⟨rfl, by decide⟩
theorem n3_1 : th_n3D (.inl (0, th_f1)) := th_n3_l (by decide)
theorem n3_2 : th_n3D (.inr (1, 200, 200, fun _ => (1, (-9223372036854775808), 9223372036854775807))) := fun _ => ⟨rfl, Nat.ne_of_beq_eq_false rfl⟩
theorem n3_3 : th_n3D (.inl (1, th_f3)) := th_n3_l (by decide)
theorem n3_4 : th_n3D (.inr (0, 9, 9, fun _ => (0, 0, 12))) := fun _ => ⟨rfl, Nat.ne_of_beq_eq_false rfl⟩
theorem n3_5 : th_n3D (.inr (0, 9, 9, fun _ => (0, (-2147483648), 2147483647))) := fun _ => ⟨rfl, Nat.ne_of_beq_eq_false rfl⟩
theorem n3_6 : th_n3D (.inr (0, 9, 9, fun _ => (0, (-2147483648), 2147483647))) := fun _ => ⟨rfl, Nat.ne_of_beq_eq_false rfl⟩
theorem n3_7 : th_n3D (.inr (0, 9, 9, fun _ => (0, (-2147483648), 2147483647))) := fun _ => ⟨rfl, Nat.ne_of_beq_eq_false rfl⟩
theorem n3_8 : th_n3D (.inr (0, 9, 9, fun _ => (0, (-2147483648), 2147483647))) := fun _ => ⟨rfl, Nat.ne_of_beq_eq_false rfl⟩
theorem n3_9 : th_n3D (.inr (0, 3, 3, fun _ => (0, (-2147483648), 2147483647))) := fun _ => ⟨rfl, Nat.ne_of_beq_eq_false rfl⟩
theorem n3_10 : th_n3D (.inr (0, 12, 12, fun _ => (0, (-2147483648), 2147483647))) := fun _ => ⟨rfl, Nat.ne_of_beq_eq_false rfl⟩
theorem n3_11 : th_n3D (.inl (2, th_f11)) := th_n3_l (by decide)
theorem n3_12 : th_n3D (.inl (3, th_f12)) := th_n3_l (by decide)
theorem n3_13 : th_n3D (.inr (1, 1024, 16384, fun _ => (1, (-9223372036854775808), 9223372036854775807))) := fun _ => ⟨rfl, Nat.ne_of_beq_eq_false rfl⟩
theorem n3_14 : th_n3D (.inr (0, 1024, 16384, fun _ => (0, (-2147483648), 2147483647))) := fun _ => ⟨rfl, Nat.ne_of_beq_eq_false rfl⟩
theorem n3_15 : th_n3D (.inr (0, 1024, 16384, fun _ => (0, (-2147483648), 2147483647))) := fun _ => ⟨rfl, Nat.ne_of_beq_eq_false rfl⟩
theorem n3_16 : th_n3D (.inr (0, 512, 8192, fun _ => (0, 0, 16383))) := fun _ => ⟨rfl, Nat.ne_of_beq_eq_false rfl⟩
theorem n3_17 : th_n3D (.inl (4, th_f17)) := th_n3_l (by decide)
theorem n3_18 : th_n3D (.inr (0, 480, 480, fun _ => (0, (-2147483648), 2147483647))) := fun _ => ⟨rfl, Nat.ne_of_beq_eq_false rfl⟩
theorem n3_19 : th_n3D (.inr (0, 480, 480, fun _ => (0, (-2147483648), 2147483647))) := fun _ => ⟨rfl, Nat.ne_of_beq_eq_false rfl⟩
theorem n3_20 : th_n3D (.inl (5, th_f20)) := th_n3_l (by decide)
theorem n3_21 : th_n3D (.inr (0, 401, 401, fun _ => (0, (-2147483648), 2147483647))) := fun _ => ⟨rfl, Nat.ne_of_beq_eq_false rfl⟩
theorem n3_22 : th_n3D (.inr (0, 401, 401, fun _ => (0, (-2147483648), 2147483647))) := fun _ => ⟨rfl, Nat.ne_of_beq_eq_false rfl⟩
theorem n3_23 : th_n3D (.inl (6, th_f23)) := th_n3_l (by decide)
theorem n3_24 : th_n3D (.inr (1, 64, 64, fun _ => (1, (-9223372036854775808), 9223372036854775807))) := fun _ => ⟨rfl, Nat.ne_of_beq_eq_false rfl⟩
theorem n3_25 : th_n3D (.inr (0, 23, 23, fun _ => (0, (-2147483648), 2147483647))) := fun _ => ⟨rfl, Nat.ne_of_beq_eq_false rfl⟩
theorem n3_26 : th_n3D (.inr (0, 3, 3, fun _ => (0, (-2147483648), 2147483647))) := fun _ => ⟨rfl, Nat.ne_of_beq_eq_false rfl⟩
theorem n3_27 : th_n3D (.inl (7, th_f27)) := th_n3_l (by decide)
theorem n3_28 : th_n3D (.inr (0, 1296, 1296, fun _ => (0, (-2147483648), 2147483647))) := fun _ => ⟨rfl, Nat.ne_of_beq_eq_false rfl⟩
theorem n3_29 : th_n3D (.inr (0, 1296, 1296, fun _ => (0, (-2147483648), 2147483647))) := fun _ => ⟨rfl, Nat.ne_of_beq_eq_false rfl⟩
theorem n3_30 : th_n3D (.inr (0, 1296, 1296, fun _ => (0, (-2147483648), 2147483647))) := fun _ => ⟨rfl, Nat.ne_of_beq_eq_false rfl⟩
theorem n3_31 : th_n3D (.inr (0, 9, 9, fun _ => (0, (-2147483648), 2147483647))) := fun _ => ⟨rfl, Nat.ne_of_beq_eq_false rfl⟩
theorem n3_32 : th_n3D (.inl (8, th_f32)) := th_n3_l (by decide)
theorem n3_33 : th_n3D (.inr (4, 6, 6, fun _ => (2, 39, 0))) := fun _ => ⟨rfl, Nat.ne_of_beq_eq_false rfl⟩
theorem n3_34 : th_n3D (.inr (0, 6, 6, fun _ => (0, (-2147483648), 2147483647))) := fun _ => ⟨rfl, Nat.ne_of_beq_eq_false rfl⟩
theorem n3_35 : th_n3D (.inr (0, 6, 6, fun _ => (0, (-2147483648), 2147483647))) := fun _ => ⟨rfl, Nat.ne_of_beq_eq_false rfl⟩
theorem n3_36 : th_n3D (.inr (0, 6, 6, fun _ => (0, (-2147483648), 2147483647))) := fun _ => ⟨rfl, Nat.ne_of_beq_eq_false rfl⟩
theorem n3_37 : th_n3D (.inl (9, th_f37)) := th_n3_l (by decide)
theorem n3_38 : th_n3D (.inr (0, 400, 400, fun _ => (0, (-2147483648), 2147483647))) := fun _ => ⟨rfl, Nat.ne_of_beq_eq_false rfl⟩
theorem n3_39 : th_n3D (.inl (10, th_f39)) := th_n3_l (by decide)
theorem n3_40 : th_n3D (.inr (0, 400, 400, fun _ => (0, 0, 2147483647))) := fun _ => ⟨rfl, Nat.ne_of_beq_eq_false rfl⟩
theorem n3_41 : th_n3D (.inr (0, 96, 96, th_esm)) := fun i => th_n3_0 (th_esm1 i)
theorem n3_42 : th_n3D (.inl (11, th_f42)) := th_n3_l (by decide)
theorem n3_43 : th_n3D (.inr (5, 2, 2, fun _ => (2, 32, 0))) := fun _ => ⟨rfl, Nat.ne_of_beq_eq_false rfl⟩
theorem n3_44 : th_n3D (.inr (2, 2, 2, fun _ => (0, 0, 1))) := fun _ => ⟨rfl, Nat.ne_of_beq_eq_false rfl⟩
theorem n3_45 : th_n3D (.inr (0, 5, 5, fun _ => (0, (-2147483648), 2147483647))) := fun _ => ⟨rfl, Nat.ne_of_beq_eq_false rfl⟩
theorem n3_46 : th_n3D (.inl (12, th_f46)) := th_n3_l (by decide)
theorem n3_47 : th_n3D (.inr (0, 7, 7, fun _ => (0, (-2147483648), 2147483647))) := fun _ => ⟨rfl, Nat.ne_of_beq_eq_false rfl⟩
theorem n3_48 : th_n3D (.inr (0, 5680, 5680, th_esk)) := fun i => th_n3_0 (th_esk1 i)
theorem n3_49 : th_n3D (.inr (0, 11360, 11360, th_esi)) := fun i => th_n3_0 (th_esi1 i)
theorem n3_50 : th_n3D (.inr (2, 2, 2, fun _ => (0, 0, 1))) := fun _ => ⟨rfl, Nat.ne_of_beq_eq_false rfl⟩
theorem n3_51 : th_n3D (.inr (0, 58, 58, fun _ => (0, (-2147483648), 2147483647))) := fun _ => ⟨rfl, Nat.ne_of_beq_eq_false rfl⟩
theorem n3_52 : th_n3D (.inr (3, 127, 127, th_esw)) := fun _ => ⟨rfl, Nat.ne_of_beq_eq_false rfl⟩
theorem n3_53 : th_n3D (.inr (3, 400, 400, fun _ => (0, (-128), 127))) := fun _ => ⟨rfl, Nat.ne_of_beq_eq_false rfl⟩
theorem n3_54 : th_n3D (.inr (0, 5, 5, fun _ => (0, (-2147483648), 2147483647))) := fun _ => ⟨rfl, Nat.ne_of_beq_eq_false rfl⟩
theorem n3_55 : th_n3D (.inr (0, 401, 401, fun _ => (0, (-2147483648), 2147483647))) := fun _ => ⟨rfl, Nat.ne_of_beq_eq_false rfl⟩
theorem n3_56 : th_n3D (.inr (0, 401, 401, fun _ => (0, (-2147483648), 2147483647))) := fun _ => ⟨rfl, Nat.ne_of_beq_eq_false rfl⟩
theorem n3_57 : th_n3D (.inr (0, 401, 401, fun _ => (0, 0, 400))) := fun _ => ⟨rfl, Nat.ne_of_beq_eq_false rfl⟩
theorem n3_58 : th_n3D (.inr (0, 8, 8, fun _ => (0, (-2147483648), 2147483647))) := fun _ => ⟨rfl, Nat.ne_of_beq_eq_false rfl⟩
theorem n3_59 : th_n3D (.inr (0, 12, 12, fun _ => (0, (-2147483648), 2147483647))) := fun _ => ⟨rfl, Nat.ne_of_beq_eq_false rfl⟩
theorem n3_60 : th_n3D (.inr (0, 9, 9, fun _ => (0, (-2147483648), 2147483647))) := fun _ => ⟨rfl, Nat.ne_of_beq_eq_false rfl⟩
theorem n3_61 : th_n3D (.inr (0, 480, 480, fun _ => (0, (-2147483648), 2147483647))) := fun _ => ⟨rfl, Nat.ne_of_beq_eq_false rfl⟩
theorem n3_62 : th_n3D (.inr (0, 480, 480, fun _ => (0, (-2147483648), 2147483647))) := fun _ => ⟨rfl, Nat.ne_of_beq_eq_false rfl⟩
theorem n3_63 : th_n3D (.inr (0, 1296, 1296, fun _ => (0, (-2147483648), 2147483647))) := fun _ => ⟨rfl, Nat.ne_of_beq_eq_false rfl⟩
theorem n3_64 : th_n3D (.inr (0, 9, 9, fun _ => (0, 0, 8))) := fun _ => ⟨rfl, Nat.ne_of_beq_eq_false rfl⟩
theorem n3_65 : th_n3D (.inr (0, 9, 9, fun _ => (0, 0, 143))) := fun _ => ⟨rfl, Nat.ne_of_beq_eq_false rfl⟩
theorem n3_66 : th_n3D (.inr (0, 9, 9, fun _ => (0, (-2147483648), 2147483647))) := fun _ => ⟨rfl, Nat.ne_of_beq_eq_false rfl⟩
theorem n3_67 : th_n3D (.inr (0, 1296, 1296, fun _ => (0, (-2147483648), 2147483647))) := fun _ => ⟨rfl, Nat.ne_of_beq_eq_false rfl⟩
theorem n3_68 : th_n3D (.inr (1, 21, 21, fun _ => (1, (-9223372036854775808), 9223372036854775807))) := fun _ => ⟨rfl, Nat.ne_of_beq_eq_false rfl⟩
theorem n3_69 : th_n3D (.inr (1, 3, 3, fun _ => (1, (-9223372036854775808), 9223372036854775807))) := fun _ => ⟨rfl, Nat.ne_of_beq_eq_false rfl⟩
theorem n3_70 : th_n3D (.inr (0, 29, 29, fun _ => (0, (-2147483648), 2147483647))) := fun _ => ⟨rfl, Nat.ne_of_beq_eq_false rfl⟩
theorem n3_71 : th_n3D (.inl (0, th_f71)) := th_n3_l (by decide)
theorem n3_72 : th_n3D (.inl (1, th_f72)) := th_n3_l (by decide)
theorem n3_73 : th_n3D (.inl (2, th_f73)) := th_n3_l (by decide)
theorem n3_74 : th_n3D (.inl (3, th_f74)) := th_n3_l (by decide)
theorem n3_75 : th_n3D (.inl (4, th_f75)) := th_n3_l (by decide)
theorem n3_76 : th_n3D (.inl (5, th_f76)) := th_n3_l (by decide)
theorem n3_77 : th_n3D (.inl (6, th_f77)) := th_n3_l (by decide)
theorem n3_78 : th_n3D (.inl (7, th_f78)) := th_n3_l (by decide)
theorem n3_79 : th_n3D (.inl (8, th_f79)) := th_n3_l (by decide)
theorem n3_80 : th_n3D (.inl (9, th_f80)) := th_n3_l (by decide)
theorem n3_81 : th_n3D (.inl (10, th_f81)) := th_n3_l (by decide)
theorem n3_82 : th_n3D (.inl (11, th_f82)) := th_n3_l (by decide)
theorem n3_83 : th_n3D (.inl (12, th_f83)) := th_n3_l (by decide)
theorem n3_84 : th_n3D (.inr (4, 6, 6, fun _ => (5, 0, 0))) := fun _ => ⟨rfl, Nat.ne_of_beq_eq_false rfl⟩
theorem n3_85 : th_n3D (.inr (5, 2, 2, fun _ => (5, 0, 0))) := fun _ => ⟨rfl, Nat.ne_of_beq_eq_false rfl⟩
theorem n3_86 : th_n3D (.inr (0, 5680, 5680, fun _ => (5, 0, 0))) := fun _ => ⟨rfl, Nat.ne_of_beq_eq_false rfl⟩
theorem n3_87 : th_n3D (.inr (0, 11360, 11360, fun _ => (5, 0, 0))) := fun _ => ⟨rfl, Nat.ne_of_beq_eq_false rfl⟩
theorem n3_88 : th_n3D (.inr (3, 127, 127, fun _ => (5, 0, 0))) := fun _ => ⟨rfl, Nat.ne_of_beq_eq_false rfl⟩
theorem th_n3_all : ∀ (r : Nat) (d : th_De), th_ro r = some d → th_n3D d
  | 0, _, h => by cases h
  | 1, _, h => by cases ro_1.symm.trans h; exact n3_1
  | 2, _, h => by cases ro_2.symm.trans h; exact n3_2
  | 3, _, h => by cases ro_3.symm.trans h; exact n3_3
  | 4, _, h => by cases ro_4.symm.trans h; exact n3_4
  | 5, _, h => by cases ro_5.symm.trans h; exact n3_5
  | 6, _, h => by cases ro_6.symm.trans h; exact n3_6
  | 7, _, h => by cases ro_7.symm.trans h; exact n3_7
  | 8, _, h => by cases ro_8.symm.trans h; exact n3_8
  | 9, _, h => by cases ro_9.symm.trans h; exact n3_9
  | 10, _, h => by cases ro_10.symm.trans h; exact n3_10
  | 11, _, h => by cases ro_11.symm.trans h; exact n3_11
  | 12, _, h => by cases ro_12.symm.trans h; exact n3_12
  | 13, _, h => by cases ro_13.symm.trans h; exact n3_13
  | 14, _, h => by cases ro_14.symm.trans h; exact n3_14
  | 15, _, h => by cases ro_15.symm.trans h; exact n3_15
  | 16, _, h => by cases ro_16.symm.trans h; exact n3_16
  | 17, _, h => by cases ro_17.symm.trans h; exact n3_17
  | 18, _, h => by cases ro_18.symm.trans h; exact n3_18
  | 19, _, h => by cases ro_19.symm.trans h; exact n3_19
  | 20, _, h => by cases ro_20.symm.trans h; exact n3_20
  | 21, _, h => by cases ro_21.symm.trans h; exact n3_21
  | 22, _, h => by cases ro_22.symm.trans h; exact n3_22
  | 23, _, h => by cases ro_23.symm.trans h; exact n3_23
  | 24, _, h => by cases ro_24.symm.trans h; exact n3_24
  | 25, _, h => by cases ro_25.symm.trans h; exact n3_25
  | 26, _, h => by cases ro_26.symm.trans h; exact n3_26
  | 27, _, h => by cases ro_27.symm.trans h; exact n3_27
  | 28, _, h => by cases ro_28.symm.trans h; exact n3_28
  | 29, _, h => by cases ro_29.symm.trans h; exact n3_29
  | 30, _, h => by cases ro_30.symm.trans h; exact n3_30
  | 31, _, h => by cases ro_31.symm.trans h; exact n3_31
  | 32, _, h => by cases ro_32.symm.trans h; exact n3_32
  | 33, _, h => by cases ro_33.symm.trans h; exact n3_33
  | 34, _, h => by cases ro_34.symm.trans h; exact n3_34
  | 35, _, h => by cases ro_35.symm.trans h; exact n3_35
  | 36, _, h => by cases ro_36.symm.trans h; exact n3_36
  | 37, _, h => by cases ro_37.symm.trans h; exact n3_37
  | 38, _, h => by cases ro_38.symm.trans h; exact n3_38
  | 39, _, h => by cases ro_39.symm.trans h; exact n3_39
  | 40, _, h => by cases ro_40.symm.trans h; exact n3_40
  | 41, _, h => by cases ro_41.symm.trans h; exact n3_41
  | 42, _, h => by cases ro_42.symm.trans h; exact n3_42
  | 43, _, h => by cases ro_43.symm.trans h; exact n3_43
  | 44, _, h => by cases ro_44.symm.trans h; exact n3_44
  | 45, _, h => by cases ro_45.symm.trans h; exact n3_45
  | 46, _, h => by cases ro_46.symm.trans h; exact n3_46
  | 47, _, h => by cases ro_47.symm.trans h; exact n3_47
  | 48, _, h => by cases ro_48.symm.trans h; exact n3_48
  | 49, _, h => by cases ro_49.symm.trans h; exact n3_49
  | 50, _, h => by cases ro_50.symm.trans h; exact n3_50
  | 51, _, h => by cases ro_51.symm.trans h; exact n3_51
  | 52, _, h => by cases ro_52.symm.trans h; exact n3_52
  | 53, _, h => by cases ro_53.symm.trans h; exact n3_53
  | 54, _, h => by cases ro_54.symm.trans h; exact n3_54
  | 55, _, h => by cases ro_55.symm.trans h; exact n3_55
  | 56, _, h => by cases ro_56.symm.trans h; exact n3_56
  | 57, _, h => by cases ro_57.symm.trans h; exact n3_57
  | 58, _, h => by cases ro_58.symm.trans h; exact n3_58
  | 59, _, h => by cases ro_59.symm.trans h; exact n3_59
  | 60, _, h => by cases ro_60.symm.trans h; exact n3_60
  | 61, _, h => by cases ro_61.symm.trans h; exact n3_61
  | 62, _, h => by cases ro_62.symm.trans h; exact n3_62
  | 63, _, h => by cases ro_63.symm.trans h; exact n3_63
  | 64, _, h => by cases ro_64.symm.trans h; exact n3_64
  | 65, _, h => by cases ro_65.symm.trans h; exact n3_65
  | 66, _, h => by cases ro_66.symm.trans h; exact n3_66
  | 67, _, h => by cases ro_67.symm.trans h; exact n3_67
  | 68, _, h => by cases ro_68.symm.trans h; exact n3_68
  | 69, _, h => by cases ro_69.symm.trans h; exact n3_69
  | 70, _, h => by cases ro_70.symm.trans h; exact n3_70
  | 71, _, h => by cases ro_71.symm.trans h; exact n3_71
  | 72, _, h => by cases ro_72.symm.trans h; exact n3_72
  | 73, _, h => by cases ro_73.symm.trans h; exact n3_73
  | 74, _, h => by cases ro_74.symm.trans h; exact n3_74
  | 75, _, h => by cases ro_75.symm.trans h; exact n3_75
  | 76, _, h => by cases ro_76.symm.trans h; exact n3_76
  | 77, _, h => by cases ro_77.symm.trans h; exact n3_77
  | 78, _, h => by cases ro_78.symm.trans h; exact n3_78
  | 79, _, h => by cases ro_79.symm.trans h; exact n3_79
  | 80, _, h => by cases ro_80.symm.trans h; exact n3_80
  | 81, _, h => by cases ro_81.symm.trans h; exact n3_81
  | 82, _, h => by cases ro_82.symm.trans h; exact n3_82
  | 83, _, h => by cases ro_83.symm.trans h; exact n3_83
  | 84, _, h => by cases ro_84.symm.trans h; exact n3_84
  | 85, _, h => by cases ro_85.symm.trans h; exact n3_85
  | 86, _, h => by cases ro_86.symm.trans h; exact n3_86
  | 87, _, h => by cases ro_87.symm.trans h; exact n3_87
  | 88, _, h => by cases ro_88.symm.trans h; exact n3_88
  | n + 89, _, h => by have h2 : th_rl[n + 88]? = none := List.getElem?_eq_none (Nat.le_add_left 88 n); cases h2.symm.trans h
theorem lx_s {a : Nat} {q : th_sp} {v : Value} (hn : th_n3 q = true) (h4 : q.1 = 4 → ∀ b : Nat, v = .ref b → Γ b = (q.2.1.toNat, a) → lx_un G Γ H b = (q.2.1.toNat, a)) (h : th_sat Γ a q v) : th_sat (lx_un G Γ H) a q v := by
  obtain ⟨t, lo, hi⟩ := q
  unfold th_n3 at hn
  unfold th_sat at h ⊢
  match t, hn, h4, h with
  | 0, _, _, h => exact h
  | 1, _, _, h => exact h
  | 2, hn, _, h =>
    obtain ⟨b, e1, e2⟩ := h
    exact ⟨b, e1, lx_o e2 (by simpa using hn)⟩
  | 3, hn, _, h =>
    rcases h with h | ⟨b, e1, e2⟩
    · exact Or.inl h
    · exact Or.inr ⟨b, e1, lx_o e2 (by simpa using hn)⟩
  | 4, _, h4, h =>
    obtain ⟨b, e1, e2⟩ := h
    exact ⟨b, e1, h4 rfl b e1 e2⟩
  | n + 5, _, _, _ => trivial
theorem lx_I (hI : th_I G Γ H) : th_I G (lx_un G Γ H) H := by
  intro a r o d hg hd
  obtain ⟨e1, nb⟩ := lx_c hg hd
  obtain ⟨g1, g2⟩ := hI a r o d e1 hd
  refine ⟨g1, ?_⟩
  have hn := th_n3_all r d hd
  rcases d with ⟨k, fs⟩ | ⟨t, n1, n2, es⟩
  · have hno := lx_on hd
    have ho : o = 0 := by
      unfold lx_bad at nb
      rw [e1] at nb
      simpa [hno] using nb
    subst ho
    refine ⟨g2.1, fun j q hq => lx_s (hn j q hq) (fun q4 b eb hb => ?_) (g2.2 j q hq)⟩
    exact lx_r hb (dv_ow hd hq q4).1 e1 hd eb
  · obtain ⟨n, h1, h2, h3, h4⟩ := g2
    exact ⟨n, h1, h2, h3, fun i hi => lx_s (hn i).1 (fun q4 => absurd q4 (hn i).2) (h4 i hi)⟩
theorem lx_RC (hc : ∀ (q r o : Nat) (d : th_De), Γ2 q = (r, o) → th_ro r = some d → Γ q = (r, o)) (hn : ∀ q : Nat, th_ro (Γ q).1 = none → th_ro (Γ2 q).1 = none) (hR : th_RC G Γ H) : th_RC G Γ2 H := by
  obtain ⟨r1, r2, r3, r4⟩ := hR
  refine ⟨fun a o ha => r1 a o (hc _ _ _ _ ha ro_3), fun b o hb => r2 b o (hb.elim (fun w => Or.inl (hc _ _ _ _ w ro_18)) (fun w => Or.inr (hc _ _ _ _ w ro_19))), fun a o ha => ?_, fun a a' o o' ha ha' => r4 a a' o o' (hc _ _ _ _ ha ro_12) (hc _ _ _ _ ha' ro_12)⟩
  obtain ⟨n, b1, b2, b3, b4, hn0, m0, m1, m2, m3, m4, hd, ⟨f1, p1, q1, s1⟩, ⟨f2, p2, q2, s2⟩, ⟨f3, p3, q3, s3⟩, ⟨f4, ⟨p4, q4, s4⟩, r5⟩, u, mu, hu5⟩ := r3 a o (hc _ _ _ _ ha ro_12)
  exact ⟨n, b1, b2, b3, b4, hn0, m0, m1, m2, m3, m4, hd, ⟨f1, p1, hn _ q1, s1⟩, ⟨f2, p2, hn _ q2, s2⟩, ⟨f3, p3, hn _ q3, s3⟩, ⟨f4, ⟨p4, hn _ q4, s4⟩, r5⟩, u, mu, hu5⟩
theorem lx_RN {am : Nat} (hR : th_RN am G Γ H) : th_RN am G (lx_un G Γ H) H := ⟨lx_RC (fun _ _ _ _ h hd => (lx_c h hd).1) (fun _ h => lx_n h) hR.1, hR.2⟩
theorem lx_U : dv_U (lx_un G Γ H) := by
  intro b r o rk j hb ho
  obtain ⟨⟨k, fs, q, hr, hq, q4, qr⟩, y, hy⟩ := dv_ow2 ho
  obtain ⟨e1, nb⟩ := lx_c hb hy
  have key : ∀ b : Nat, Γ b = (r, o) → ¬ lx_bad G Γ H b → Γ o = (rk, 0) ∧ th_sl H o (G.1.2 k j) = .ref b := fun b e1 nb => by
    unfold lx_bad at nb
    rw [e1] at nb
    simp only [ho] at nb
    obtain ⟨w1, k1, fs1, w2, w3⟩ := Classical.not_not.mp nb
    rw [hr] at w2
    cases w2
    exact ⟨w1, w3⟩
  obtain ⟨k1, k2⟩ := key b e1 nb
  refine ⟨lx_o k1 (lx_on hr), fun b' hb' => ?_⟩
  obtain ⟨e1', nb'⟩ := lx_c hb' hy
  have k3 := (key b' e1' nb').2
  rw [k2] at k3
  exact (Value.ref.inj k3).symm
theorem lx_bits {u : Nat} (h : th_bits G Γ H u) : th_bits G (lx_un G Γ H) H u := by
  obtain ⟨h1, a, h2, h3⟩ := h
  exact ⟨h1, a, lx_o h2 rfl, h3⟩
end LXN
