section TN
variable {G : th_G} {Γ Γ1 : th_Ga} {H H1 : Heap}
def th_gb (q : th_sp) : Bool := !(q.1 == 2 || q.1 == 3 || q.1 == 4) || (th_ro q.2.1.toNat).isSome
/-- what a role names has a role -/
def th_gdD (d : th_De) : Prop := match d with
  | .inl (_, fs) => ∀ (j : Nat) (q : th_sp), fs[j]? = some q → th_gb q = true
  | .inr (_, _, _, es) => ∀ i : Nat, th_gb (es i) = true
theorem th_gd_l {k : Nat} {fs : List th_sp} (h : fs.all th_gb = true) : th_gdD (.inl (k, fs)) := fun j q hq => List.all_eq_true.mp h q (List.mem_of_getElem? hq)
theorem th_gb_0 {q : th_sp} (h : q.1 = 0) : th_gb q = true := by
  unfold th_gb
  rw [h]
  rfl
theorem gd_1 : th_gdD (.inl (0, th_f1)) := th_gd_l (by decide)
theorem gd_2 : th_gdD (.inr (1, 200, 200, fun _ => (1, (-9223372036854775808), 9223372036854775807))) := fun _ => rfl
theorem gd_3 : th_gdD (.inl (1, th_f3)) := th_gd_l (by decide)
theorem gd_4 : th_gdD (.inr (0, 9, 9, fun _ => (0, 0, 12))) := fun _ => rfl
theorem gd_5 : th_gdD (.inr (0, 9, 9, fun _ => (0, (-2147483648), 2147483647))) := fun _ => rfl
theorem gd_6 : th_gdD (.inr (0, 9, 9, fun _ => (0, (-2147483648), 2147483647))) := fun _ => rfl
theorem gd_7 : th_gdD (.inr (0, 9, 9, fun _ => (0, (-2147483648), 2147483647))) := fun _ => rfl
theorem gd_8 : th_gdD (.inr (0, 9, 9, fun _ => (0, (-2147483648), 2147483647))) := fun _ => rfl
theorem gd_9 : th_gdD (.inr (0, 3, 3, fun _ => (0, (-2147483648), 2147483647))) := fun _ => rfl
theorem gd_10 : th_gdD (.inr (0, 12, 12, fun _ => (0, (-2147483648), 2147483647))) := fun _ => rfl
theorem gd_11 : th_gdD (.inl (2, th_f11)) := th_gd_l (by decide)
theorem gd_12 : th_gdD (.inl (3, th_f12)) := th_gd_l (by decide)
theorem gd_13 : th_gdD (.inr (1, 1024, 16384, fun _ => (1, (-9223372036854775808), 9223372036854775807))) := fun _ => rfl
theorem gd_14 : th_gdD (.inr (0, 1024, 16384, fun _ => (0, (-2147483648), 2147483647))) := fun _ => rfl
theorem gd_15 : th_gdD (.inr (0, 1024, 16384, fun _ => (0, (-2147483648), 2147483647))) := fun _ => rfl
theorem gd_16 : th_gdD (.inr (0, 512, 8192, fun _ => (0, 0, 16383))) := fun _ => rfl
theorem gd_17 : th_gdD (.inl (4, th_f17)) := th_gd_l (by decide)
theorem gd_18 : th_gdD (.inr (0, 480, 480, fun _ => (0, (-2147483648), 2147483647))) := fun _ => rfl
theorem gd_19 : th_gdD (.inr (0, 480, 480, fun _ => (0, (-2147483648), 2147483647))) := fun _ => rfl
theorem gd_20 : th_gdD (.inl (5, th_f20)) := th_gd_l (by decide)
theorem gd_21 : th_gdD (.inr (0, 401, 401, fun _ => (0, (-2147483648), 2147483647))) := fun _ => rfl
theorem gd_22 : th_gdD (.inr (0, 401, 401, fun _ => (0, (-2147483648), 2147483647))) := fun _ => rfl
theorem gd_23 : th_gdD (.inl (6, th_f23)) := th_gd_l (by decide)
theorem gd_24 : th_gdD (.inr (1, 64, 64, fun _ => (1, (-9223372036854775808), 9223372036854775807))) := fun _ => rfl
theorem gd_25 : th_gdD (.inr (0, 23, 23, fun _ => (0, (-2147483648), 2147483647))) := fun _ => rfl
theorem gd_26 : th_gdD (.inr (0, 3, 3, fun _ => (0, (-2147483648), 2147483647))) := fun _ => rfl
theorem gd_27 : th_gdD (.inl (7, th_f27)) := th_gd_l (by decide)
theorem gd_28 : th_gdD (.inr (0, 1296, 1296, fun _ => (0, (-2147483648), 2147483647))) := fun _ => rfl
theorem gd_29 : th_gdD (.inr (0, 1296, 1296, fun _ => (0, (-2147483648), 2147483647))) := fun _ => rfl
theorem gd_30 : th_gdD (.inr (0, 1296, 1296, fun _ => (0, (-2147483648), 2147483647))) := fun _ => rfl
theorem gd_31 : th_gdD (.inr (0, 9, 9, fun _ => (0, (-2147483648), 2147483647))) := fun _ => rfl
theorem gd_32 : th_gdD (.inl (8, th_f32)) := th_gd_l (by decide)
theorem gd_33 : th_gdD (.inr (4, 6, 6, fun _ => (2, 39, 0))) := fun _ => rfl
theorem gd_34 : th_gdD (.inr (0, 6, 6, fun _ => (0, (-2147483648), 2147483647))) := fun _ => rfl
theorem gd_35 : th_gdD (.inr (0, 6, 6, fun _ => (0, (-2147483648), 2147483647))) := fun _ => rfl
theorem gd_36 : th_gdD (.inr (0, 6, 6, fun _ => (0, (-2147483648), 2147483647))) := fun _ => rfl
theorem gd_37 : th_gdD (.inl (9, th_f37)) := th_gd_l (by decide)
theorem gd_38 : th_gdD (.inr (0, 400, 400, fun _ => (0, (-2147483648), 2147483647))) := fun _ => rfl
theorem gd_39 : th_gdD (.inl (10, th_f39)) := th_gd_l (by decide)
theorem gd_40 : th_gdD (.inr (0, 400, 400, fun _ => (0, 0, 2147483647))) := fun _ => rfl
theorem gd_41 : th_gdD (.inr (0, 96, 96, th_esm)) := fun i => th_gb_0 (th_esm1 i)
theorem gd_42 : th_gdD (.inl (11, th_f42)) := th_gd_l (by decide)
theorem gd_43 : th_gdD (.inr (5, 2, 2, fun _ => (2, 32, 0))) := fun _ => rfl
theorem gd_44 : th_gdD (.inr (2, 2, 2, fun _ => (0, 0, 1))) := fun _ => rfl
theorem gd_45 : th_gdD (.inr (0, 5, 5, fun _ => (0, (-2147483648), 2147483647))) := fun _ => rfl
theorem gd_46 : th_gdD (.inl (12, th_f46)) := th_gd_l (by decide)
theorem gd_47 : th_gdD (.inr (0, 7, 7, fun _ => (0, (-2147483648), 2147483647))) := fun _ => rfl
theorem gd_48 : th_gdD (.inr (0, 5680, 5680, th_esk)) := fun i => th_gb_0 (th_esk1 i)
theorem gd_49 : th_gdD (.inr (0, 11360, 11360, th_esi)) := fun i => th_gb_0 (th_esi1 i)
theorem gd_50 : th_gdD (.inr (2, 2, 2, fun _ => (0, 0, 1))) := fun _ => rfl
theorem gd_51 : th_gdD (.inr (0, 58, 58, fun _ => (0, (-2147483648), 2147483647))) := fun _ => rfl
theorem gd_52 : th_gdD (.inr (3, 127, 127, th_esw)) := fun _ => rfl
theorem gd_53 : th_gdD (.inr (3, 400, 400, fun _ => (0, (-128), 127))) := fun _ => rfl
theorem gd_54 : th_gdD (.inr (0, 5, 5, fun _ => (0, (-2147483648), 2147483647))) := fun _ => rfl
theorem gd_55 : th_gdD (.inr (0, 401, 401, fun _ => (0, (-2147483648), 2147483647))) := fun _ => rfl
theorem gd_56 : th_gdD (.inr (0, 401, 401, fun _ => (0, (-2147483648), 2147483647))) := fun _ => rfl
theorem gd_57 : th_gdD (.inr (0, 401, 401, fun _ => (0, 0, 400))) := fun _ => rfl
theorem gd_58 : th_gdD (.inr (0, 8, 8, fun _ => (0, (-2147483648), 2147483647))) := fun _ => rfl
theorem gd_59 : th_gdD (.inr (0, 12, 12, fun _ => (0, (-2147483648), 2147483647))) := fun _ => rfl
theorem gd_60 : th_gdD (.inr (0, 9, 9, fun _ => (0, (-2147483648), 2147483647))) := fun _ => rfl
theorem gd_61 : th_gdD (.inr (0, 480, 480, fun _ => (0, (-2147483648), 2147483647))) := fun _ => rfl
theorem gd_62 : th_gdD (.inr (0, 480, 480, fun _ => (0, (-2147483648), 2147483647))) := fun _ => rfl
theorem gd_63 : th_gdD (.inr (0, 1296, 1296, fun _ => (0, (-2147483648), 2147483647))) := fun _ => rfl
theorem gd_64 : th_gdD (.inr (0, 9, 9, fun _ => (0, 0, 8))) := fun _ => rfl
theorem gd_65 : th_gdD (.inr (0, 9, 9, fun _ => (0, 0, 143))) := fun _ => rfl
theorem gd_66 : th_gdD (.inr (0, 9, 9, fun _ => (0, (-2147483648), 2147483647))) := fun _ => rfl
theorem gd_67 : th_gdD (.inr (0, 1296, 1296, fun _ => (0, (-2147483648), 2147483647))) := fun _ => rfl
theorem gd_68 : th_gdD (.inr (1, 21, 21, fun _ => (1, (-9223372036854775808), 9223372036854775807))) := fun _ => rfl
theorem gd_69 : th_gdD (.inr (1, 3, 3, fun _ => (1, (-9223372036854775808), 9223372036854775807))) := fun _ => rfl
theorem gd_70 : th_gdD (.inr (0, 29, 29, fun _ => (0, (-2147483648), 2147483647))) := fun _ => rfl
theorem gd_71 : th_gdD (.inl (0, th_f71)) := th_gd_l (by decide)
theorem gd_72 : th_gdD (.inl (1, th_f72)) := th_gd_l (by decide)
theorem gd_73 : th_gdD (.inl (2, th_f73)) := th_gd_l (by decide)
theorem gd_74 : th_gdD (.inl (3, th_f74)) := th_gd_l (by decide)
theorem gd_75 : th_gdD (.inl (4, th_f75)) := th_gd_l (by decide)
theorem gd_76 : th_gdD (.inl (5, th_f76)) := th_gd_l (by decide)
theorem gd_77 : th_gdD (.inl (6, th_f77)) := th_gd_l (by decide)
theorem gd_78 : th_gdD (.inl (7, th_f78)) := th_gd_l (by decide)
theorem gd_79 : th_gdD (.inl (8, th_f79)) := th_gd_l (by decide)
theorem gd_80 : th_gdD (.inl (9, th_f80)) := th_gd_l (by decide)
theorem gd_81 : th_gdD (.inl (10, th_f81)) := th_gd_l (by decide)
theorem gd_82 : th_gdD (.inl (11, th_f82)) := th_gd_l (by decide)
theorem gd_83 : th_gdD (.inl (12, th_f83)) := th_gd_l (by decide)
theorem gd_84 : th_gdD (.inr (4, 6, 6, fun _ => (5, 0, 0))) := fun _ => rfl
theorem gd_85 : th_gdD (.inr (5, 2, 2, fun _ => (5, 0, 0))) := fun _ => rfl
theorem gd_86 : th_gdD (.inr (0, 5680, 5680, fun _ => (5, 0, 0))) := fun _ => rfl
theorem gd_87 : th_gdD (.inr (0, 11360, 11360, fun _ => (5, 0, 0))) := fun _ => rfl
theorem gd_88 : th_gdD (.inr (3, 127, 127, fun _ => (5, 0, 0))) := fun _ => rfl
theorem th_gd_all : ∀ (r : Nat) (d : th_De), th_ro r = some d → th_gdD d
  | 0, _, h => by cases h
  | 1, _, h => by cases ro_1.symm.trans h; exact gd_1
  | 2, _, h => by cases ro_2.symm.trans h; exact gd_2
  | 3, _, h => by cases ro_3.symm.trans h; exact gd_3
  | 4, _, h => by cases ro_4.symm.trans h; exact gd_4
  | 5, _, h => by cases ro_5.symm.trans h; exact gd_5
  | 6, _, h => by cases ro_6.symm.trans h; exact gd_6
  | 7, _, h => by cases ro_7.symm.trans h; exact gd_7
  | 8, _, h => by cases ro_8.symm.trans h; exact gd_8
  | 9, _, h => by cases ro_9.symm.trans h; exact gd_9
  | 10, _, h => by cases ro_10.symm.trans h; exact gd_10
  | 11, _, h => by cases ro_11.symm.trans h; exact gd_11
  | 12, _, h => by cases ro_12.symm.trans h; exact gd_12
  | 13, _, h => by cases ro_13.symm.trans h; exact gd_13
  | 14, _, h => by cases ro_14.symm.trans h; exact gd_14
  | 15, _, h => by cases ro_15.symm.trans h; exact gd_15
  | 16, _, h => by cases ro_16.symm.trans h; exact gd_16
  | 17, _, h => by cases ro_17.symm.trans h; exact gd_17
  | 18, _, h => by cases ro_18.symm.trans h; exact gd_18
  | 19, _, h => by cases ro_19.symm.trans h; exact gd_19
  | 20, _, h => by cases ro_20.symm.trans h; exact gd_20
  | 21, _, h => by cases ro_21.symm.trans h; exact gd_21
  | 22, _, h => by cases ro_22.symm.trans h; exact gd_22
  | 23, _, h => by cases ro_23.symm.trans h; exact gd_23
  | 24, _, h => by cases ro_24.symm.trans h; exact gd_24
  | 25, _, h => by cases ro_25.symm.trans h; exact gd_25
  | 26, _, h => by cases ro_26.symm.trans h; exact gd_26
  | 27, _, h => by cases ro_27.symm.trans h; exact gd_27
  | 28, _, h => by cases ro_28.symm.trans h; exact gd_28
  | 29, _, h => by cases ro_29.symm.trans h; exact gd_29
  | 30, _, h => by cases ro_30.symm.trans h; exact gd_30
  | 31, _, h => by cases ro_31.symm.trans h; exact gd_31
  | 32, _, h => by cases ro_32.symm.trans h; exact gd_32
  | 33, _, h => by cases ro_33.symm.trans h; exact gd_33
  | 34, _, h => by cases ro_34.symm.trans h; exact gd_34
  | 35, _, h => by cases ro_35.symm.trans h; exact gd_35
  | 36, _, h => by cases ro_36.symm.trans h; exact gd_36
  | 37, _, h => by cases ro_37.symm.trans h; exact gd_37
  | 38, _, h => by cases ro_38.symm.trans h; exact gd_38
  | 39, _, h => by cases ro_39.symm.trans h; exact gd_39
  | 40, _, h => by cases ro_40.symm.trans h; exact gd_40
  | 41, _, h => by cases ro_41.symm.trans h; exact gd_41
  | 42, _, h => by cases ro_42.symm.trans h; exact gd_42
  | 43, _, h => by cases ro_43.symm.trans h; exact gd_43
  | 44, _, h => by cases ro_44.symm.trans h; exact gd_44
  | 45, _, h => by cases ro_45.symm.trans h; exact gd_45
  | 46, _, h => by cases ro_46.symm.trans h; exact gd_46
  | 47, _, h => by cases ro_47.symm.trans h; exact gd_47
  | 48, _, h => by cases ro_48.symm.trans h; exact gd_48
  | 49, _, h => by cases ro_49.symm.trans h; exact gd_49
  | 50, _, h => by cases ro_50.symm.trans h; exact gd_50
  | 51, _, h => by cases ro_51.symm.trans h; exact gd_51
  | 52, _, h => by cases ro_52.symm.trans h; exact gd_52
  | 53, _, h => by cases ro_53.symm.trans h; exact gd_53
  | 54, _, h => by cases ro_54.symm.trans h; exact gd_54
  | 55, _, h => by cases ro_55.symm.trans h; exact gd_55
  | 56, _, h => by cases ro_56.symm.trans h; exact gd_56
  | 57, _, h => by cases ro_57.symm.trans h; exact gd_57
  | 58, _, h => by cases ro_58.symm.trans h; exact gd_58
  | 59, _, h => by cases ro_59.symm.trans h; exact gd_59
  | 60, _, h => by cases ro_60.symm.trans h; exact gd_60
  | 61, _, h => by cases ro_61.symm.trans h; exact gd_61
  | 62, _, h => by cases ro_62.symm.trans h; exact gd_62
  | 63, _, h => by cases ro_63.symm.trans h; exact gd_63
  | 64, _, h => by cases ro_64.symm.trans h; exact gd_64
  | 65, _, h => by cases ro_65.symm.trans h; exact gd_65
  | 66, _, h => by cases ro_66.symm.trans h; exact gd_66
  | 67, _, h => by cases ro_67.symm.trans h; exact gd_67
  | 68, _, h => by cases ro_68.symm.trans h; exact gd_68
  | 69, _, h => by cases ro_69.symm.trans h; exact gd_69
  | 70, _, h => by cases ro_70.symm.trans h; exact gd_70
  | 71, _, h => by cases ro_71.symm.trans h; exact gd_71
  | 72, _, h => by cases ro_72.symm.trans h; exact gd_72
  | 73, _, h => by cases ro_73.symm.trans h; exact gd_73
  | 74, _, h => by cases ro_74.symm.trans h; exact gd_74
  | 75, _, h => by cases ro_75.symm.trans h; exact gd_75
  | 76, _, h => by cases ro_76.symm.trans h; exact gd_76
  | 77, _, h => by cases ro_77.symm.trans h; exact gd_77
  | 78, _, h => by cases ro_78.symm.trans h; exact gd_78
  | 79, _, h => by cases ro_79.symm.trans h; exact gd_79
  | 80, _, h => by cases ro_80.symm.trans h; exact gd_80
  | 81, _, h => by cases ro_81.symm.trans h; exact gd_81
  | 82, _, h => by cases ro_82.symm.trans h; exact gd_82
  | 83, _, h => by cases ro_83.symm.trans h; exact gd_83
  | 84, _, h => by cases ro_84.symm.trans h; exact gd_84
  | 85, _, h => by cases ro_85.symm.trans h; exact gd_85
  | 86, _, h => by cases ro_86.symm.trans h; exact gd_86
  | 87, _, h => by cases ro_87.symm.trans h; exact gd_87
  | 88, _, h => by cases ro_88.symm.trans h; exact gd_88
  | n + 89, _, h => by have h2 : th_rl[n + 88]? = none := List.getElem?_eq_none (Nat.le_add_left 88 n); cases h2.symm.trans h
theorem th_sat_up {a : Nat} {q : th_sp} {v : Value} (hg : th_gb q = true) (hm : ∀ b r o : Nat, Γ b = (r, o) → (th_ro r).isSome = true → Γ1 b = (r, o)) (h : th_sat Γ a q v) : th_sat Γ1 a q v := by
  obtain ⟨t, lo, hi⟩ := q
  unfold th_gb at hg
  unfold th_sat at h ⊢
  match t, hg, h with
  | 0, _, h => exact h
  | 1, _, h => exact h
  | 2, hg, h =>
    obtain ⟨b, e1, e2⟩ := h
    exact ⟨b, e1, hm b _ _ e2 (by simpa using hg)⟩
  | 3, hg, h =>
    rcases h with h | ⟨b, e1, e2⟩
    · exact Or.inl h
    · exact Or.inr ⟨b, e1, hm b _ _ e2 (by simpa using hg)⟩
  | 4, hg, h =>
    obtain ⟨b, e1, e2⟩ := h
    exact ⟨b, e1, hm b _ _ e2 (by simpa using hg)⟩
  | n + 5, _, _ => trivial
theorem th_ok_up {a : Nat} {d : th_De} (hg : th_gdD d) (hm : ∀ b r o : Nat, Γ b = (r, o) → (th_ro r).isSome = true → Γ1 b = (r, o)) (h : th_ok G Γ H a d) : th_ok G Γ1 H a d := by
  rcases d with ⟨k, fs⟩ | ⟨t, n1, n2, es⟩
  · exact ⟨h.1, fun j q hq => th_sat_up (hg j q hq) hm (h.2 j q hq)⟩
  · obtain ⟨n, h1, h2, h3, h4⟩ := h
    exact ⟨n, h1, h2, h3, fun i hi => th_sat_up (hg i) hm (h4 i hi)⟩
/-- a name more -/
def th_up (Γ : th_Ga) (b : Nat) (x : Nat × Nat) : th_Ga := fun q => if q = b then x else Γ q
theorem th_up_s {b : Nat} {x : Nat × Nat} : th_up Γ b x b = x := if_pos rfl
theorem th_up_n {b q : Nat} {x : Nat × Nat} (h : q ≠ b) : th_up Γ b x q = Γ q := if_neg h
theorem th_up_m {b : Nat} {x : Nat × Nat} (hu : th_ro (Γ b).1 = none) : ∀ q r o : Nat, Γ q = (r, o) → (th_ro r).isSome = true → th_up Γ b x q = (r, o) := fun q r o hq hr => by
  have hn : q ≠ b := fun e => by
    rw [← e, hq] at hu
    rw [hu] at hr
    cases hr
  rw [th_up_n hn]
  exact hq
theorem th_nm0 (hI : th_I G Γ H) {b r o : Nat} {d : th_De} (hu : th_ro (Γ b).1 = none) (hr : th_ro r = some d) (hsz : G.2.2 ≤ b) (hok : th_ok G (th_up Γ b (r, o)) H b d) : th_I G (th_up Γ b (r, o)) H := fun a r' o' d' hg hd => by
  by_cases e : a = b
  · subst e
    rw [th_up_s] at hg
    cases hg
    cases hr.symm.trans hd
    exact ⟨hsz, hok⟩
  · rw [th_up_n e] at hg
    obtain ⟨h1, h2⟩ := hI a r' o' d' hg hd
    exact ⟨h1, th_ok_up (th_gd_all r' d' hd) (th_up_m hu) h2⟩
/-- a row gets its name -/
theorem th_nmA (hI : th_I G Γ H) {b r o t n1 n2 N : Nat} {es : Nat → th_sp} {f : Nat → Value} (hm : th_MA G Γ H b t N f) (hr : th_ro r = some (.inr (t, n1, n2, es))) (h1 : n1 ≤ N) (h2 : N ≤ n2) (hs : ∀ i, i < N → th_sat Γ b (es i) (f i)) : th_I G (th_up Γ b (r, o)) H := by
  refine th_nm0 hI hm.2.1 hr hm.1 ?_
  have hn : ∀ x, x < N → th_sl H b x = f x := fun x hx => th_sl_at hm.2.2 (arrV_read _ _ hx)
  refine ⟨N, h1, h2, ?_, fun i hi => ?_⟩
  · rw [hm.2.2]
    exact congrArg some (th_arrV (fun x hx => (hn x hx).symm))
  · rw [hn i hi]
    exact th_sat_up (th_gd_all r _ hr i) (th_up_m hm.2.1) (hs i hi)
/-- an object gets its name -/
theorem th_nmO (hI : th_I G Γ H) {a r k N : Nat} {fs : List th_sp} {V : Nat → Value} (ho : th_OB G Γ H a k N V) (hsz : G.2.2 ≤ a) (hr : th_ro r = some (.inl (k, fs))) (hN : fs.length = N) (hs : ∀ (j : Nat) (q : th_sp), fs[j]? = some q → th_sat Γ a q (V j)) : th_I G (th_up Γ a (r, 0)) H := by
  refine th_nm0 hI ho.1 hr hsz ?_
  obtain ⟨hu, cell, q1, q2, q3, q4⟩ := ho
  have hn : ∀ j, j < N → th_sl H a (G.1.2 k j) = V j := fun j hj => th_sl_at q1 (q4 j hj)
  refine ⟨⟨cell, q1, q2, q3, fun j hj => ?_⟩, fun j q hq => ?_⟩
  · show cell.slots[G.1.2 k j]? = some (th_sl H a (G.1.2 k j))
    rw [hn j (by rw [← hN]; exact hj)]
    exact q4 j (by rw [← hN]; exact hj)
  · have hj : j < N := by rw [← hN]; exact (List.getElem?_eq_some_iff.mp hq).1
    rw [hn j hj]
    exact th_sat_up (th_gd_all r _ hr j q hq) (th_up_m hu) (hs j q hq)
/-- rows without a name stay so -/
theorem th_MA_up {b b' t N : Nat} {f : Nat → Value} {x : Nat × Nat} (h : th_MA G Γ H b' t N f) (hn : b' ≠ b) : th_MA G (th_up Γ b x) H b' t N f := ⟨h.1, by rw [th_up_n hn]; exact h.2.1, h.2.2⟩
theorem th_OB_up {b a k N : Nat} {V : Nat → Value} {x : Nat × Nat} (h : th_OB G Γ H a k N V) (hn : a ≠ b) : th_OB G (th_up Γ b x) H a k N V := ⟨by rw [th_up_n hn]; exact h.1, h.2⟩
/-- a cell that is a row of a memo -/
def th_MR (G : th_G) (Γ : th_Ga) (H : Heap) (q : Nat) : Prop := ∃ a o j : Nat, Γ a = (12, o) ∧ 1 ≤ j ∧ j ≤ 4 ∧ th_sl H a (G.1.2 3 j) = .ref q
/-- the class's relations, as cells come: new floors, steps, memos apart -/
theorem th_RC_X (hI : th_I G Γ H) (hR : th_RC G Γ H) {a0 : Nat} (hu : th_ro (Γ a0).1 = none) (hm : ¬ th_MR G Γ H a0) (hI1 : th_I G Γ1 H1) (hz : H.size ≤ H1.size) (hX : ∀ q, q < H.size → q ≠ a0 → Γ1 q = Γ q ∧ H1[q]? = H[q]?)
    (hN : ∀ q r o : Nat, Γ1 q = (r, o) → (q = a0 ∨ H.size ≤ q) → (r = 3 → th_XY G H1 q) ∧ (r = 18 ∨ r = 19 → th_PS H1 q) ∧ r ≠ 12) : th_RC G Γ1 H1 := by
  obtain ⟨r1, r2, r3, r4⟩ := hR
  have hold : ∀ q r o : Nat, Γ1 q = (r, o) → ¬ (q = a0 ∨ H.size ≤ q) → Γ q = (r, o) ∧ H1[q]? = H[q]? := fun q r o h1 h2 => by
    obtain ⟨e1, e2⟩ := hX q (by omega) (fun e => h2 (Or.inl e))
    exact ⟨e1.symm.trans h1, e2⟩
  have hown : ∀ b r o : Nat, Γ b = (r, o) → (th_ro r).isSome = true → H1[b]? = H[b]? := fun b r o h1 h2 => by
    cases hd : th_ro r with
    | none => rw [hd] at h2; cases h2
    | some d =>
      have hl := th_ok_lt (hI b r o d h1 hd).2
      exact (hX b hl (fun e => by rw [← e, h1] at hu; rw [hd] at hu; cases hu)).2
  refine ⟨fun a o ha => ?_, fun b o hb => ?_, fun a o ha => ?_, fun a a' o o' ha ha' => ?_⟩
  · by_cases w : a = a0 ∨ H.size ≤ a
    · exact (hN a 3 o ha w).1 rfl
    · obtain ⟨g1, g2⟩ := hold a 3 o ha w
      obtain ⟨bx, m1, k1⟩ := th_fo hI g1 ro_3 (j := 3) (r2 := 7) rfl
      obtain ⟨by_, m2, k2⟩ := th_fo hI g1 ro_3 (j := 4) (r2 := 8) rfl
      intro bx' by' e1 e2 c hc hne
      rw [th_sl_kept g2] at e1 e2
      cases m1.symm.trans e1
      cases m2.symm.trans e2
      rw [th_sl_kept (hown bx 7 a k1 rfl)] at hne
      rw [th_sl_kept (hown by_ 8 a k2 rfl)]
      exact r1 a o g1 bx by_ m1 m2 c hc hne
  · by_cases w : b = a0 ∨ H.size ≤ b
    · rcases hb with hb | hb
      · exact (hN b 18 o hb w).2.1 (Or.inl rfl)
      · exact (hN b 19 o hb w).2.1 (Or.inr rfl)
    · have hb' : (Γ b = (18, o) ∨ Γ b = (19, o)) ∧ H1[b]? = H[b]? := by
        rcases hb with hb | hb
        · exact ⟨Or.inl (hold b 18 o hb w).1, (hold b 18 o hb w).2⟩
        · exact ⟨Or.inr (hold b 19 o hb w).1, (hold b 19 o hb w).2⟩
      intro u hu' c hc
      rw [th_sl_kept hb'.2, th_sl_kept hb'.2]
      exact r2 b o hb'.1 u hu' c hc
  · by_cases w : a = a0 ∨ H.size ≤ a
    · exact absurd rfl (hN a 12 o ha w).2.2
    · obtain ⟨g1, g2⟩ := hold a 12 o ha w
      obtain ⟨n, b1, b2, b3, b4, hn, m0, m1, m2, m3, m4, hd, ⟨f1, p1, q1, s1⟩, ⟨f2, p2, q2, s2⟩, ⟨f3, p3, q3, s3⟩, ⟨f4, ⟨p4, q4, s4⟩, r5⟩, u, mu, hu5⟩ := r3 a o g1
      have ks : ∀ i, th_sl H1 a i = th_sl H a i := th_sl_kept g2
      have hb : ∀ b j : Nat, 1 ≤ j → j ≤ 4 → th_sl H a (G.1.2 3 j) = .ref b → th_ro (Γ b).1 = none → b < H.size → th_ro (Γ1 b).1 = none ∧ H1[b]? = H[b]? := fun b j j1 j4 e1 e2 e3 => by
        obtain ⟨x1, x2⟩ := hX b e3 (fun e => hm ⟨a, o, j, g1, j1, j4, e ▸ e1⟩)
        exact ⟨by rw [x1]; exact e2, x2⟩
      have lt : ∀ {b t N : Nat} {f : Nat → Value}, H[b]? = some (arrV (G.2.1 t) N f) → b < H.size := fun h => (Array.getElem?_eq_some_iff.mp h).1
      have y1 := hb b1 1 (by omega) (by omega) m1 q1 (lt s1)
      have y2 := hb b2 2 (by omega) (by omega) m2 q2 (lt s2)
      have y3 := hb b3 3 (by omega) (by omega) m3 q3 (lt s3)
      have y4 := hb b4 4 (by omega) (by omega) m4 q4 (lt s4)
      exact ⟨n, b1, b2, b3, b4, hn, (ks _).trans m0, (ks _).trans m1, (ks _).trans m2, (ks _).trans m3, (ks _).trans m4, hd, ⟨f1, p1, y1.1, y1.2.trans s1⟩, ⟨f2, p2, y2.1, y2.2.trans s2⟩, ⟨f3, p3, y3.1, y3.2.trans s3⟩, ⟨f4, ⟨p4, y4.1, y4.2.trans s4⟩, r5⟩, u, (ks _).trans mu, hu5⟩
  · have e1 := hold a 12 o ha (fun w => (hN a 12 o ha w).2.2 rfl)
    have e2 := hold a' 12 o' ha' (fun w => (hN a' 12 o' ha' w).2.2 rfl)
    exact r4 a a' o o' e1.1 e2.1
end TN
