/-! THE CLAIM OUT OF ONE WALK OF THE LAW'S BODY. Your part is whole_start (and what it stands on); all else here is the same for every law, but numbers. -/
def R_law : String := "CarpetHallsLaw"
def lw_P (b : Addr) (xs : List Int32) (args : Array Value) (s : State) : Prop := args = #[.ref b] ∧ s.IntsAt b xs ∧ xs.length ≤ 384 ∧ (Jvm.Cond.and given_1 narrow_1).before args s = true
def lw_Q (_ : Array Value) (s : State) (o : Outcome) (t : State) : Prop := o = .returned (some (.int 1)) ∧ Framed s o t [] 600000 7302250
def lw_Z (below : List Frame) (a : Array Value) (s : State) : State → Prop := fun t => ∃ o, t.status = .running ∧ Ended t below o ∧ lw_Q a s o t
/-- the law's own end, with 1 on the stack, nothing written that was there before, its room as the claim has it -/
theorem lw_ret {p : Program} {l : Launch} {e : Env} {s : State} {m : MethodId} {below : List Frame} {meth : Method} {c : Code} {b : Nat} (hx : p.tables.exec = Jvm.exec) (hb : c.code = code) (hr : meth.sig.returnType = ret) (hlocks : meth.locks = false) {pc : Nat} {H : Heap} {ls : Array Slot} (hdg : decode code pc = .ok (.ireturn, 1)) : W p l e room_1 s m #[Value.ref b] below meth c H [] 600000 7302250 (lw_Z below #[Value.ref b] s) (F0 m pc ls [.int 1]) := by
  intro T hT X
  obtain ⟨fs, hret, hrun, hended, hW, hframe⟩ := X.leave (v := some (.int 1)) (hlocks := hlocks) (fun h => by rw [hr] at h; cases h)
  have hmeth' : T.vm.method? m = some meth := X.method'
  refine ⟨T.setFrames fs, ?_, .returned (some (.int 1)), hrun, hended, rfl, ⟨_, rfl⟩, hW, hframe⟩
  jvm_step X.here [X.here.top, hx, hb, hdg, hmeth', hr, ret, narrow_b1]
  (try refine ⟨rfl, ?_⟩); (try refine ⟨rfl, ?_⟩)
  first | (intro acts; rw [hret _ acts rfl rfl rfl]) | rw [hret _ _ rfl rfl rfl]
  exact Steps.refl _
/-- what holds at the law's entry: the machine, the code, the tables' words (any of lw_tbl by 'hts w (by decide +kernel)'), the script of L ints xs at the cell b, what the Statement gives of the start (any of its parts by flat_of_before) -/
def lw_At (p : Program) (s : State) (m : MethodId) (meth : Method) (c : Code) (b L : Nat) (xs : Nat → Int32) : Prop :=
  p.tables.exec = Jvm.exec ∧ c.code = code ∧ meth.sig.returnType = ret ∧ c.maxLocals = 4 ∧ s.vm.findClass R_law = some m.cls ∧ (∀ w ∈ lw_tbl, w.before #[Value.ref b] s = true) ∧ va_X b L xs s s.heap ∧ b < s.heap.size ∧ meth.locks = false ∧ (Jvm.Cond.and given_1 narrow_1).before #[Value.ref b] s = true
section LW1
variable {args : Array Value} {s : State} {G : th_G} {Γ : th_Ga} {H : Heap}
theorem cb_l {a b : Cond} (h : (Cond.and a b).before args s = true) : a.before args s = true := by
  rw [Cond.before_and, Bool.and_eq_true] at h
  exact h.1
theorem cb_r {a b : Cond} (h : (Cond.and a b).before args s = true) : b.before args s = true := by
  rw [Cond.before_and, Bool.and_eq_true] at h
  exact h.2
theorem lw_arr {cA comp : ClassId} {kA : Class} {ty : FieldType} (h1 : s.vm.classes[cA]? = some kA) (h2 : kA.kind = .array comp ty) : ArrOfT s cA ty := fun n z => ⟨(fun k h => by cases h), kA, h1, comp, h2⟩
/-- a word of the language, as the Statement gives it -/
theorem lw_zq {own : String} (hA : ∀ a : Nat, a < s.heap.size → ¬ G.2.2 ≤ a) {k : Nat} {tx : String} (bs : List Int32) (hn : bs.length < 8) (hsr : (Cond.stringRef own k tx).before args s = true) (hex : (Cond.exactly (.string own k) "java/lang/String").before args s = true) (hco : (Cond.eq (.field (.string own k) "java/lang/String" "coder" "B") (.int 0)).before args s = true) (har : (Cond.arrayOf (.field (.string own k) "java/lang/String" "value" "[B") .byte).before args s = true) (hle : (Cond.eq (.length (.field (.string own k) "java/lang/String" "value" "[B")) (.int (Int32.ofNat bs.length))).before args s = true) (hel : ∀ j : Nat, j < bs.length → (Cond.eq (.elem (.field (.string own k) "java/lang/String" "value" "[B") (.int (Int32.ofNat j))) (.int (bs.getD j 0))).before args s = true) : ∃ q : Nat, th_Zq G q bs s s.heap ∧ vk_R own k tx q s := by
  obtain ⟨a, c, cA, kA, q1, q2, q3, q4, q5, q6, -⟩ := Cond.exactly_spec (args := args) (first := s) (o := none) (s := s) (idx := []) (t := .string own k) (cls := "java/lang/String") hex
  obtain ⟨t, ht, hT⟩ := va_Tof (f := fun j => .int (bs.getD j 0)) (A := fun q => G.2.2 ≤ q) (Nat.lt_trans hn (by decide)) har (va_eqt hle) (fun j hj => va_eqt (hel j hj)) hA
  exact ⟨a, ⟨hn, t, ⟨cA, q3, q5, by rw [q6]; exact q2, hA a (Array.getElem?_eq_some_iff.mp q3).1⟩, vk_OFof q1 (va_eqt hco) hA, vk_OFof q1 ht hA, hT⟩, vk_R.of hsr q1⟩
theorem lw_zc (hA : ∀ a : Nat, a < s.heap.size → ¬ G.2.2 ≤ a) (l1 : (Cond.laysStatic "java/lang/String" "COMPACT_STRINGS" "Z").before args s = true) (i1 : (Cond.initialized "java/lang/String").before args s = true) (v1 : (Cond.eq (.static "java/lang/String" "COMPACT_STRINGS" "Z") (.int 1)).before args s = true)
    (l2 : (Cond.laysStatic "jdk/internal/util/Preconditions" "SIOOBE_FORMATTER" "Ljava/util/function/BiFunction;").before args s = true) (i2 : (Cond.initialized "jdk/internal/util/Preconditions").before args s = true) (v2 : (Cond.isRef (.static "jdk/internal/util/Preconditions" "SIOOBE_FORMATTER" "Ljava/util/function/BiFunction;")).before args s = true) : th_Zc G s s.heap := by
  refine ⟨va_Zof l1 i1 (va_eqi v1) hA, ?_⟩
  rcases va_Zqof l2 i2 v2 hA (A := fun q => G.2.2 ≤ q) with h | ⟨t, h⟩
  · exact ⟨.null, Or.inl rfl, h⟩
  · exact ⟨.ref t, Or.inr ⟨t, rfl⟩, h⟩
/-- all but one Halls and one reader lose their names -/
def lw_un (Γ : th_Ga) (ax rd : Nat) : th_Ga := fun q => if ((Γ q).1 = 42 ∧ q ≠ ax) ∨ ((Γ q).1 = 20 ∧ q ≠ rd) then (0, 0) else Γ q
theorem lw_un_c {ax rd q r o : Nat} {d : th_De} (h : lw_un Γ ax rd q = (r, o)) (hd : th_ro r = some d) : Γ q = (r, o) ∧ (r = 42 → q = ax) ∧ (r = 20 → q = rd) := by
  unfold lw_un at h
  by_cases w : ((Γ q).1 = 42 ∧ q ≠ ax) ∨ ((Γ q).1 = 20 ∧ q ≠ rd)
  · rw [if_pos w] at h
    cases h
    cases hd
  · rw [if_neg w] at h
    refine ⟨h, fun e => ?_, fun e => ?_⟩
    · by_cases w2 : q = ax
      · exact w2
      · exact absurd (Or.inl ⟨by rw [h]; exact e, w2⟩) w
    · by_cases w2 : q = rd
      · exact w2
      · exact absurd (Or.inr ⟨by rw [h]; exact e, w2⟩) w
theorem lw_un_k {ax rd q r o : Nat} (h : Γ q = (r, o)) (h1 : r = 42 → q = ax) (h2 : r = 20 → q = rd) : lw_un Γ ax rd q = (r, o) := by
  unfold lw_un
  rw [if_neg, h]
  rintro (⟨w1, w2⟩ | ⟨w1, w2⟩)
  · rw [h] at w1
    exact w2 (h1 w1)
  · rw [h] at w1
    exact w2 (h2 w1)
theorem lw_un_n {ax rd q : Nat} (h : th_ro (Γ q).1 = none) : th_ro (lw_un Γ ax rd q).1 = none := by
  unfold lw_un
  split
  · rfl
  · exact h
def th_n2 (q : th_sp) : Bool := !(q.1 == 2 || q.1 == 3 || q.1 == 4) || (q.2.1.toNat != 20 && q.2.1.toNat != 42)
def th_n2D (d : th_De) : Prop := match d with
  | .inl (_, fs) => ∀ (j : Nat) (q : th_sp), fs[j]? = some q → th_n2 q = true
  | .inr (_, _, _, es) => ∀ i : Nat, th_n2 (es i) = true
theorem th_n2_l {k : Nat} {fs : List th_sp} (h : fs.all th_n2 = true) : th_n2D (.inl (k, fs)) := fun j q hq => List.all_eq_true.mp h q (List.mem_of_getElem? hq)
theorem th_n2_0 {q : th_sp} (h : q.1 = 0) : th_n2 q = true := by
  unfold th_n2
  rw [h]
  rfl
theorem lw_un_s {ax rd a : Nat} {q : th_sp} {v : Value} (hg : th_n2 q = true) (h : th_sat Γ a q v) : th_sat (lw_un Γ ax rd) a q v := by
  obtain ⟨t, lo, hi⟩ := q
  unfold th_n2 at hg
  unfold th_sat at h ⊢
  have key : (lo.toNat != 20 && lo.toNat != 42) = true → ∀ b o : Nat, Γ b = (lo.toNat, o) → lw_un Γ ax rd b = (lo.toNat, o) := fun hh b o hb => by
    rw [Bool.and_eq_true, bne_iff_ne, bne_iff_ne] at hh
    exact lw_un_k hb (fun e => absurd e hh.2) (fun e => absurd e hh.1)
  match t, hg, h with
  | 0, _, h => exact h
  | 1, _, h => exact h
  | 2, hg, h =>
    obtain ⟨b, e1, e2⟩ := h
    exact ⟨b, e1, key (by simpa using hg) b 0 e2⟩
  | 3, hg, h =>
    rcases h with h | ⟨b, e1, e2⟩
    · exact Or.inl h
    · exact Or.inr ⟨b, e1, key (by simpa using hg) b 0 e2⟩
  | 4, hg, h =>
    obtain ⟨b, e1, e2⟩ := h
    exact ⟨b, e1, key (by simpa using hg) b a e2⟩
  | n + 5, _, _ => trivial

theorem n2_1 : th_n2D (.inl (0, th_f1)) := th_n2_l (by decide)
theorem n2_2 : th_n2D (.inr (1, 200, 200, fun _ => (1, (-9223372036854775808), 9223372036854775807))) := fun _ => rfl
theorem n2_3 : th_n2D (.inl (1, th_f3)) := th_n2_l (by decide)
theorem n2_4 : th_n2D (.inr (0, 9, 9, fun _ => (0, 0, 12))) := fun _ => rfl
theorem n2_5 : th_n2D (.inr (0, 9, 9, fun _ => (0, (-2147483648), 2147483647))) := fun _ => rfl
theorem n2_6 : th_n2D (.inr (0, 9, 9, fun _ => (0, (-2147483648), 2147483647))) := fun _ => rfl
theorem n2_7 : th_n2D (.inr (0, 9, 9, fun _ => (0, (-2147483648), 2147483647))) := fun _ => rfl
theorem n2_8 : th_n2D (.inr (0, 9, 9, fun _ => (0, (-2147483648), 2147483647))) := fun _ => rfl
theorem n2_9 : th_n2D (.inr (0, 3, 3, fun _ => (0, (-2147483648), 2147483647))) := fun _ => rfl
theorem n2_10 : th_n2D (.inr (0, 12, 12, fun _ => (0, (-2147483648), 2147483647))) := fun _ => rfl
theorem n2_11 : th_n2D (.inl (2, th_f11)) := th_n2_l (by decide)
theorem n2_12 : th_n2D (.inl (3, th_f12)) := th_n2_l (by decide)
theorem n2_13 : th_n2D (.inr (1, 1024, 16384, fun _ => (1, (-9223372036854775808), 9223372036854775807))) := fun _ => rfl
theorem n2_14 : th_n2D (.inr (0, 1024, 16384, fun _ => (0, (-2147483648), 2147483647))) := fun _ => rfl
theorem n2_15 : th_n2D (.inr (0, 1024, 16384, fun _ => (0, (-2147483648), 2147483647))) := fun _ => rfl
theorem n2_16 : th_n2D (.inr (0, 512, 8192, fun _ => (0, 0, 16383))) := fun _ => rfl
theorem n2_17 : th_n2D (.inl (4, th_f17)) := th_n2_l (by decide)
theorem n2_18 : th_n2D (.inr (0, 480, 480, fun _ => (0, (-2147483648), 2147483647))) := fun _ => rfl
theorem n2_19 : th_n2D (.inr (0, 480, 480, fun _ => (0, (-2147483648), 2147483647))) := fun _ => rfl
theorem n2_20 : th_n2D (.inl (5, th_f20)) := th_n2_l (by decide)
theorem n2_21 : th_n2D (.inr (0, 401, 401, fun _ => (0, (-2147483648), 2147483647))) := fun _ => rfl
theorem n2_22 : th_n2D (.inr (0, 401, 401, fun _ => (0, (-2147483648), 2147483647))) := fun _ => rfl
theorem n2_23 : th_n2D (.inl (6, th_f23)) := th_n2_l (by decide)
theorem n2_24 : th_n2D (.inr (1, 64, 64, fun _ => (1, (-9223372036854775808), 9223372036854775807))) := fun _ => rfl
theorem n2_25 : th_n2D (.inr (0, 23, 23, fun _ => (0, (-2147483648), 2147483647))) := fun _ => rfl
theorem n2_26 : th_n2D (.inr (0, 3, 3, fun _ => (0, (-2147483648), 2147483647))) := fun _ => rfl
theorem n2_27 : th_n2D (.inl (7, th_f27)) := th_n2_l (by decide)
theorem n2_28 : th_n2D (.inr (0, 1296, 1296, fun _ => (0, (-2147483648), 2147483647))) := fun _ => rfl
theorem n2_29 : th_n2D (.inr (0, 1296, 1296, fun _ => (0, (-2147483648), 2147483647))) := fun _ => rfl
theorem n2_30 : th_n2D (.inr (0, 1296, 1296, fun _ => (0, (-2147483648), 2147483647))) := fun _ => rfl
theorem n2_31 : th_n2D (.inr (0, 9, 9, fun _ => (0, (-2147483648), 2147483647))) := fun _ => rfl
theorem n2_32 : th_n2D (.inl (8, th_f32)) := th_n2_l (by decide)
theorem n2_33 : th_n2D (.inr (4, 6, 6, fun _ => (2, 39, 0))) := fun _ => rfl
theorem n2_34 : th_n2D (.inr (0, 6, 6, fun _ => (0, (-2147483648), 2147483647))) := fun _ => rfl
theorem n2_35 : th_n2D (.inr (0, 6, 6, fun _ => (0, (-2147483648), 2147483647))) := fun _ => rfl
theorem n2_36 : th_n2D (.inr (0, 6, 6, fun _ => (0, (-2147483648), 2147483647))) := fun _ => rfl
theorem n2_37 : th_n2D (.inl (9, th_f37)) := th_n2_l (by decide)
theorem n2_38 : th_n2D (.inr (0, 400, 400, fun _ => (0, (-2147483648), 2147483647))) := fun _ => rfl
theorem n2_39 : th_n2D (.inl (10, th_f39)) := th_n2_l (by decide)
theorem n2_40 : th_n2D (.inr (0, 400, 400, fun _ => (0, 0, 2147483647))) := fun _ => rfl
theorem n2_41 : th_n2D (.inr (0, 96, 96, th_esm)) := fun i => th_n2_0 (th_esm1 i)
theorem n2_43 : th_n2D (.inr (5, 2, 2, fun _ => (2, 32, 0))) := fun _ => rfl
theorem n2_44 : th_n2D (.inr (2, 2, 2, fun _ => (0, 0, 1))) := fun _ => rfl
theorem n2_45 : th_n2D (.inr (0, 5, 5, fun _ => (0, (-2147483648), 2147483647))) := fun _ => rfl
theorem n2_46 : th_n2D (.inl (12, th_f46)) := th_n2_l (by decide)
theorem n2_47 : th_n2D (.inr (0, 7, 7, fun _ => (0, (-2147483648), 2147483647))) := fun _ => rfl
theorem n2_48 : th_n2D (.inr (0, 5680, 5680, th_esk)) := fun i => th_n2_0 (th_esk1 i)
theorem n2_49 : th_n2D (.inr (0, 11360, 11360, th_esi)) := fun i => th_n2_0 (th_esi1 i)
theorem n2_50 : th_n2D (.inr (2, 2, 2, fun _ => (0, 0, 1))) := fun _ => rfl
theorem n2_51 : th_n2D (.inr (0, 58, 58, fun _ => (0, (-2147483648), 2147483647))) := fun _ => rfl
theorem n2_52 : th_n2D (.inr (3, 127, 127, th_esw)) := fun _ => rfl
theorem n2_53 : th_n2D (.inr (3, 400, 400, fun _ => (0, (-128), 127))) := fun _ => rfl
theorem n2_54 : th_n2D (.inr (0, 5, 5, fun _ => (0, (-2147483648), 2147483647))) := fun _ => rfl
theorem n2_55 : th_n2D (.inr (0, 401, 401, fun _ => (0, (-2147483648), 2147483647))) := fun _ => rfl
theorem n2_56 : th_n2D (.inr (0, 401, 401, fun _ => (0, (-2147483648), 2147483647))) := fun _ => rfl
theorem n2_57 : th_n2D (.inr (0, 401, 401, fun _ => (0, 0, 400))) := fun _ => rfl
theorem n2_58 : th_n2D (.inr (0, 8, 8, fun _ => (0, (-2147483648), 2147483647))) := fun _ => rfl
theorem n2_59 : th_n2D (.inr (0, 12, 12, fun _ => (0, (-2147483648), 2147483647))) := fun _ => rfl
theorem n2_60 : th_n2D (.inr (0, 9, 9, fun _ => (0, (-2147483648), 2147483647))) := fun _ => rfl
theorem n2_61 : th_n2D (.inr (0, 480, 480, fun _ => (0, (-2147483648), 2147483647))) := fun _ => rfl
theorem n2_62 : th_n2D (.inr (0, 480, 480, fun _ => (0, (-2147483648), 2147483647))) := fun _ => rfl
theorem n2_63 : th_n2D (.inr (0, 1296, 1296, fun _ => (0, (-2147483648), 2147483647))) := fun _ => rfl
theorem n2_64 : th_n2D (.inr (0, 9, 9, fun _ => (0, 0, 8))) := fun _ => rfl
theorem n2_65 : th_n2D (.inr (0, 9, 9, fun _ => (0, 0, 143))) := fun _ => rfl
theorem n2_66 : th_n2D (.inr (0, 9, 9, fun _ => (0, (-2147483648), 2147483647))) := fun _ => rfl
theorem n2_67 : th_n2D (.inr (0, 1296, 1296, fun _ => (0, (-2147483648), 2147483647))) := fun _ => rfl
theorem n2_68 : th_n2D (.inr (1, 21, 21, fun _ => (1, (-9223372036854775808), 9223372036854775807))) := fun _ => rfl
theorem n2_69 : th_n2D (.inr (1, 3, 3, fun _ => (1, (-9223372036854775808), 9223372036854775807))) := fun _ => rfl
theorem n2_70 : th_n2D (.inr (0, 29, 29, fun _ => (0, (-2147483648), 2147483647))) := fun _ => rfl
theorem n2_71 : th_n2D (.inl (0, th_f71)) := th_n2_l (by decide)
theorem n2_72 : th_n2D (.inl (1, th_f72)) := th_n2_l (by decide)
theorem n2_73 : th_n2D (.inl (2, th_f73)) := th_n2_l (by decide)
theorem n2_74 : th_n2D (.inl (3, th_f74)) := th_n2_l (by decide)
theorem n2_75 : th_n2D (.inl (4, th_f75)) := th_n2_l (by decide)
theorem n2_76 : th_n2D (.inl (5, th_f76)) := th_n2_l (by decide)
theorem n2_77 : th_n2D (.inl (6, th_f77)) := th_n2_l (by decide)
theorem n2_78 : th_n2D (.inl (7, th_f78)) := th_n2_l (by decide)
theorem n2_79 : th_n2D (.inl (8, th_f79)) := th_n2_l (by decide)
theorem n2_80 : th_n2D (.inl (9, th_f80)) := th_n2_l (by decide)
theorem n2_81 : th_n2D (.inl (10, th_f81)) := th_n2_l (by decide)
theorem n2_82 : th_n2D (.inl (11, th_f82)) := th_n2_l (by decide)
theorem n2_83 : th_n2D (.inl (12, th_f83)) := th_n2_l (by decide)
theorem n2_84 : th_n2D (.inr (4, 6, 6, fun _ => (5, 0, 0))) := fun _ => rfl
theorem n2_85 : th_n2D (.inr (5, 2, 2, fun _ => (5, 0, 0))) := fun _ => rfl
theorem n2_86 : th_n2D (.inr (0, 5680, 5680, fun _ => (5, 0, 0))) := fun _ => rfl
theorem n2_87 : th_n2D (.inr (0, 11360, 11360, fun _ => (5, 0, 0))) := fun _ => rfl
theorem n2_88 : th_n2D (.inr (3, 127, 127, fun _ => (5, 0, 0))) := fun _ => rfl
theorem th_n2_all : ∀ (r : Nat) (d : th_De), r ≠ 42 → th_ro r = some d → th_n2D d
  | 0, _, _, h => by cases h
  | 1, _, w, h => by cases ro_1.symm.trans h; exact n2_1
  | 2, _, w, h => by cases ro_2.symm.trans h; exact n2_2
  | 3, _, w, h => by cases ro_3.symm.trans h; exact n2_3
  | 4, _, w, h => by cases ro_4.symm.trans h; exact n2_4
  | 5, _, w, h => by cases ro_5.symm.trans h; exact n2_5
  | 6, _, w, h => by cases ro_6.symm.trans h; exact n2_6
  | 7, _, w, h => by cases ro_7.symm.trans h; exact n2_7
  | 8, _, w, h => by cases ro_8.symm.trans h; exact n2_8
  | 9, _, w, h => by cases ro_9.symm.trans h; exact n2_9
  | 10, _, w, h => by cases ro_10.symm.trans h; exact n2_10
  | 11, _, w, h => by cases ro_11.symm.trans h; exact n2_11
  | 12, _, w, h => by cases ro_12.symm.trans h; exact n2_12
  | 13, _, w, h => by cases ro_13.symm.trans h; exact n2_13
  | 14, _, w, h => by cases ro_14.symm.trans h; exact n2_14
  | 15, _, w, h => by cases ro_15.symm.trans h; exact n2_15
  | 16, _, w, h => by cases ro_16.symm.trans h; exact n2_16
  | 17, _, w, h => by cases ro_17.symm.trans h; exact n2_17
  | 18, _, w, h => by cases ro_18.symm.trans h; exact n2_18
  | 19, _, w, h => by cases ro_19.symm.trans h; exact n2_19
  | 20, _, w, h => by cases ro_20.symm.trans h; exact n2_20
  | 21, _, w, h => by cases ro_21.symm.trans h; exact n2_21
  | 22, _, w, h => by cases ro_22.symm.trans h; exact n2_22
  | 23, _, w, h => by cases ro_23.symm.trans h; exact n2_23
  | 24, _, w, h => by cases ro_24.symm.trans h; exact n2_24
  | 25, _, w, h => by cases ro_25.symm.trans h; exact n2_25
  | 26, _, w, h => by cases ro_26.symm.trans h; exact n2_26
  | 27, _, w, h => by cases ro_27.symm.trans h; exact n2_27
  | 28, _, w, h => by cases ro_28.symm.trans h; exact n2_28
  | 29, _, w, h => by cases ro_29.symm.trans h; exact n2_29
  | 30, _, w, h => by cases ro_30.symm.trans h; exact n2_30
  | 31, _, w, h => by cases ro_31.symm.trans h; exact n2_31
  | 32, _, w, h => by cases ro_32.symm.trans h; exact n2_32
  | 33, _, w, h => by cases ro_33.symm.trans h; exact n2_33
  | 34, _, w, h => by cases ro_34.symm.trans h; exact n2_34
  | 35, _, w, h => by cases ro_35.symm.trans h; exact n2_35
  | 36, _, w, h => by cases ro_36.symm.trans h; exact n2_36
  | 37, _, w, h => by cases ro_37.symm.trans h; exact n2_37
  | 38, _, w, h => by cases ro_38.symm.trans h; exact n2_38
  | 39, _, w, h => by cases ro_39.symm.trans h; exact n2_39
  | 40, _, w, h => by cases ro_40.symm.trans h; exact n2_40
  | 41, _, w, h => by cases ro_41.symm.trans h; exact n2_41
  | 42, _, w, h => absurd rfl w
  | 43, _, w, h => by cases ro_43.symm.trans h; exact n2_43
  | 44, _, w, h => by cases ro_44.symm.trans h; exact n2_44
  | 45, _, w, h => by cases ro_45.symm.trans h; exact n2_45
  | 46, _, w, h => by cases ro_46.symm.trans h; exact n2_46
  | 47, _, w, h => by cases ro_47.symm.trans h; exact n2_47
  | 48, _, w, h => by cases ro_48.symm.trans h; exact n2_48
  | 49, _, w, h => by cases ro_49.symm.trans h; exact n2_49
  | 50, _, w, h => by cases ro_50.symm.trans h; exact n2_50
  | 51, _, w, h => by cases ro_51.symm.trans h; exact n2_51
  | 52, _, w, h => by cases ro_52.symm.trans h; exact n2_52
  | 53, _, w, h => by cases ro_53.symm.trans h; exact n2_53
  | 54, _, w, h => by cases ro_54.symm.trans h; exact n2_54
  | 55, _, w, h => by cases ro_55.symm.trans h; exact n2_55
  | 56, _, w, h => by cases ro_56.symm.trans h; exact n2_56
  | 57, _, w, h => by cases ro_57.symm.trans h; exact n2_57
  | 58, _, w, h => by cases ro_58.symm.trans h; exact n2_58
  | 59, _, w, h => by cases ro_59.symm.trans h; exact n2_59
  | 60, _, w, h => by cases ro_60.symm.trans h; exact n2_60
  | 61, _, w, h => by cases ro_61.symm.trans h; exact n2_61
  | 62, _, w, h => by cases ro_62.symm.trans h; exact n2_62
  | 63, _, w, h => by cases ro_63.symm.trans h; exact n2_63
  | 64, _, w, h => by cases ro_64.symm.trans h; exact n2_64
  | 65, _, w, h => by cases ro_65.symm.trans h; exact n2_65
  | 66, _, w, h => by cases ro_66.symm.trans h; exact n2_66
  | 67, _, w, h => by cases ro_67.symm.trans h; exact n2_67
  | 68, _, w, h => by cases ro_68.symm.trans h; exact n2_68
  | 69, _, w, h => by cases ro_69.symm.trans h; exact n2_69
  | 70, _, w, h => by cases ro_70.symm.trans h; exact n2_70
  | 71, _, w, h => by cases ro_71.symm.trans h; exact n2_71
  | 72, _, w, h => by cases ro_72.symm.trans h; exact n2_72
  | 73, _, w, h => by cases ro_73.symm.trans h; exact n2_73
  | 74, _, w, h => by cases ro_74.symm.trans h; exact n2_74
  | 75, _, w, h => by cases ro_75.symm.trans h; exact n2_75
  | 76, _, w, h => by cases ro_76.symm.trans h; exact n2_76
  | 77, _, w, h => by cases ro_77.symm.trans h; exact n2_77
  | 78, _, w, h => by cases ro_78.symm.trans h; exact n2_78
  | 79, _, w, h => by cases ro_79.symm.trans h; exact n2_79
  | 80, _, w, h => by cases ro_80.symm.trans h; exact n2_80
  | 81, _, w, h => by cases ro_81.symm.trans h; exact n2_81
  | 82, _, w, h => by cases ro_82.symm.trans h; exact n2_82
  | 83, _, w, h => by cases ro_83.symm.trans h; exact n2_83
  | 84, _, w, h => by cases ro_84.symm.trans h; exact n2_84
  | 85, _, w, h => by cases ro_85.symm.trans h; exact n2_85
  | 86, _, w, h => by cases ro_86.symm.trans h; exact n2_86
  | 87, _, w, h => by cases ro_87.symm.trans h; exact n2_87
  | 88, _, w, h => by cases ro_88.symm.trans h; exact n2_88
  | n + 89, _, _, h => by have h2 : th_rl[n + 88]? = none := List.getElem?_eq_none (Nat.le_add_left 88 n); cases h2.symm.trans h
theorem lw_f42 {j : Nat} {q : th_sp} (hj : j ≠ 6) (hq : th_f42[j]? = some q) : th_n2 q = true := by
  match j, hj, hq with
  | 0, hj, hq => have e9 := Option.some.inj hq; subst e9; decide
  | 1, hj, hq => have e9 := Option.some.inj hq; subst e9; decide
  | 2, hj, hq => have e9 := Option.some.inj hq; subst e9; decide
  | 3, hj, hq => have e9 := Option.some.inj hq; subst e9; decide
  | 4, hj, hq => have e9 := Option.some.inj hq; subst e9; decide
  | 5, hj, hq => have e9 := Option.some.inj hq; subst e9; decide
  | 6, hj, hq => exact absurd rfl hj
  | 7, hj, hq => have e9 := Option.some.inj hq; subst e9; decide
  | 8, hj, hq => have e9 := Option.some.inj hq; subst e9; decide
  | 9, hj, hq => have e9 := Option.some.inj hq; subst e9; decide
  | 10, hj, hq => have e9 := Option.some.inj hq; subst e9; decide
  | 11, hj, hq => have e9 := Option.some.inj hq; subst e9; decide
  | 12, hj, hq => have e9 := Option.some.inj hq; subst e9; decide
  | 13, hj, hq => have e9 := Option.some.inj hq; subst e9; decide
  | 14, hj, hq => have e9 := Option.some.inj hq; subst e9; decide
  | 15, hj, hq => have e9 := Option.some.inj hq; subst e9; decide
  | 16, hj, hq => have e9 := Option.some.inj hq; subst e9; decide
  | 17, hj, hq => have e9 := Option.some.inj hq; subst e9; decide
  | n + 18, _, hq => exact absurd (List.getElem?_eq_some_iff.mp hq).1 (by simp)
/-- one Halls, one reader: the types hold as they did -/
theorem lw_un_I {ax rd : Nat} (hI : th_I G Γ H) (hax : Γ ax = (42, 0)) (hrd : th_sl H ax (G.1.2 11 6) = .ref rd) (hr : Γ rd = (20, 0)) : th_I G (lw_un Γ ax rd) H := by
  intro a r o d hg hd
  obtain ⟨e1, e2, e3⟩ := lw_un_c hg hd
  obtain ⟨g1, g2⟩ := hI a r o d e1 hd
  refine ⟨g1, ?_⟩
  by_cases w : r = 42
  · have ea := e2 w
    subst w ea
    cases ro_42.symm.trans hd
    refine ⟨g2.1, fun j q hq => ?_⟩
    by_cases w6 : j = 6
    · subst w6
      have e9 := Option.some.inj hq
      subst e9
      rw [hrd]
      exact th_sR (lw_un_k hr (fun e => by cases e) (fun _ => rfl))
    · exact lw_un_s (lw_f42 w6 hq) (g2.2 j q hq)
  · have hn := th_n2_all r d w hd
    rcases d with ⟨k, fs⟩ | ⟨t, n1, n2, es⟩
    · exact ⟨g2.1, fun j q hq => lw_un_s (hn j q hq) (g2.2 j q hq)⟩
    · obtain ⟨n, h1, h2, h3, h4⟩ := g2
      exact ⟨n, h1, h2, h3, fun i hi => lw_un_s (hn i) (h4 i hi)⟩
theorem lw_un_R {ax rd : Nat} (hR : th_RC G Γ H) : th_RC G (lw_un Γ ax rd) H := by
  obtain ⟨r1, r2, r3, r4⟩ := hR
  refine ⟨fun a o ha => r1 a o (lw_un_c ha ro_3).1, fun b o hb => r2 b o (hb.elim (fun w => Or.inl (lw_un_c w ro_18).1) (fun w => Or.inr (lw_un_c w ro_19).1)), fun a o ha => ?_, fun a a' o o' ha ha' => r4 a a' o o' (lw_un_c ha ro_12).1 (lw_un_c ha' ro_12).1⟩
  obtain ⟨n, b1, b2, b3, b4, hn, m0, m1, m2, m3, m4, hd, ⟨f1, p1, q1, s1⟩, ⟨f2, p2, q2, s2⟩, ⟨f3, p3, q3, s3⟩, ⟨f4, ⟨p4, q4, s4⟩, r5⟩, u, mu, hu5⟩ := r3 a o (lw_un_c ha ro_12).1
  exact ⟨n, b1, b2, b3, b4, hn, m0, m1, m2, m3, m4, hd, ⟨f1, p1, lw_un_n q1, s1⟩, ⟨f2, p2, lw_un_n q2, s2⟩, ⟨f3, p3, lw_un_n q3, s3⟩, ⟨f4, ⟨p4, lw_un_n q4, s4⟩, r5⟩, u, mu, hu5⟩
theorem lw_un_q {ax rd a a1 o o1 : Nat} (h : lw_un Γ ax rd a = (20, o)) (h1 : lw_un Γ ax rd a1 = (20, o1)) : a = a1 := ((lw_un_c h ro_20).2.2 rfl).trans ((lw_un_c h1 ro_20).2.2 rfl).symm
/-- what a shared field names -/
theorem lw_fr (hI : th_I G Γ H) {a r o k j r2 : Nat} {fs : List th_sp} {hi : Int} (ha : Γ a = (r, o)) (hr : th_ro r = some (.inl (k, fs))) (hq : fs[j]? = some (2, (r2 : Int), hi)) : ∃ b : Nat, th_sl H a (G.1.2 k j) = .ref b ∧ Γ b = (r2, 0) := by
  obtain ⟨-, -, h⟩ := hI a r o _ ha hr
  obtain ⟨b, h1, h2⟩ := h j _ hq
  exact ⟨b, h1, by simpa using h2⟩
theorem lw_bits {ax : Nat} (hI : th_I G Γ H) (hR : th_RC G Γ H) (hax : Γ ax = (42, 0)) : ∃ u : Nat, th_bits G Γ H u := by
  obtain ⟨b, -, hb⟩ := lw_fr hI hax ro_42 (j := 11) (r2 := 27) rfl
  obtain ⟨d, -, hd⟩ := lw_fr hI hb ro_27 (j := 0) (r2 := 12) rfl
  obtain ⟨n, b1, b2, b3, b4, hme⟩ := hR.2.2.1 d 0 hd
  exact ⟨n, th_bits_me hd hme⟩
theorem lw_pcb {u : Nat} (h : u = 10 ∨ u = 12 ∨ u = 14) : th_pc u ≤ 8 ∧ th_pq u ≤ 71680 := by
  rcases h with rfl | rfl | rfl <;> decide
/-- no name at all -/
def lw_g0 : th_Ga := fun _ => (0, 0)
theorem lw_g0c {a r o : Nat} (h : lw_g0 a = (r, o)) : r = 0 := (Prod.mk.inj h).1.symm
end LW1
section LW2
variable {p : Program} {l : Launch} {e : Env} {R : Room} {s : State} {m : MethodId} {args : Array Value} {below : List Frame} {meth : Method} {c : Code} {H H0 H1 : Heap} {locs : List Loc} {cells slots : Nat} {Q : State → Prop}
variable {cc : ByteArray} {pc : Nat} {ls : Array Slot} {rest : List Value} {G : th_G} {Γ Γ0 Γ1 : th_Ga}
/-- a new object, where none is under way -/
theorem tl_new {nL : Nat} {own C : String} (hC : th_C p s m args c cc nL own G) {k : Nat} {T : u_T} {N : Nat} {ty : Nat → FieldType} (hcf : th_CF k C T N ty) (hI : th_I G Γ H) (hS : va_S (fun q => G.2.2 ≤ q) H0 H locs) {index : Nat} (hcl : Cond.classLink own index C ∈ th_tb) (hinst : Cond.instantiable C N ∈ th_tb) (hini : Cond.initialized C ∈ th_tb) (hcells : cells + 1 ≤ R.cells) (hslots : slots + N ≤ R.slots) (hdg : decode cc pc = .ok (.new index, 3))
    (kk : ∀ (H1 : Heap), H1.size = H.size + 1 → (∀ q, q ≠ H.size → H1[q]? = H[q]?) → th_I G Γ H1 → va_S (fun q => G.2.2 ≤ q) H0 H1 locs → th_OB G Γ H1 H.size k N (fun j => defaultValue (ty j)) → W p l e R s m args below meth c H1 locs (cells + 1) (slots + N) Q (F0 m (pc + 3) ls (.ref H.size :: rest))) : W p l e R s m args below meth c H locs cells slots Q (F0 m pc ls rest) := by
  obtain ⟨hx, hb, -, hown, hts, hK, -⟩ := hC
  obtain ⟨hc, hin, hty, hnm, hdc⟩ := hcf
  have hKn := hK.1 k _ hc
  refine W.newcK hx hb hown (hts _ hcl) (hts _ hinst) (hts _ hini) rfl hdg hcells hslots hKn.2.1 rfl fun H1 kC hkC e1 z1 o1 => ?_
  have oq : ∀ q, q ≠ H.size → H1[q]? = H[q]? := fun q hq => by
    by_cases h : q < H.size
    · exact o1 q h
    · rw [Array.getElem?_eq_none (by omega), Array.getElem?_eq_none (by omega)]
  have hun : th_ro (Γ H.size).1 = none := tc_un hI (Nat.le_refl _)
  exact kk H1 z1 oq (tc_Iold hI hun (fun q _ hq => oq q hq)) ⟨Nat.le_trans hS.1 (by omega), fun q h1 h2 => (o1 q (Nat.lt_of_lt_of_le h1 hS.1)).trans (hS.2.1 q h1 h2), hS.2.2⟩ ⟨hun, u_born ty hts hin hKn hkC e1 hty⟩
end LW2

theorem kl_9 : Cond.methodLink RL 9 yX11_init ∈ th_tb := kw_24
theorem kl_12 : Cond.methodLink RL 12 yX12_init ∈ th_tb := kw_1222
theorem kl_13 : Cond.methodLink RL 13 yX11_carpet ∈ th_tb := kw_432
theorem kl_17 : Cond.methodLink RL 17 yX12_carpet ∈ th_tb := kw_1421
theorem kl_18 : Cond.methodLink RL 18 yX11_of ∈ th_tb := kw_448
theorem kl_22 : Cond.methodLink RL 22 yX12_of ∈ th_tb := kw_1443
theorem kl_23 : Cond.methodLink RL 23 yX11_hall ∈ th_tb := kw_507
theorem kl_26 : Cond.methodLink RL 26 yX12_hall ∈ th_tb := kw_1520
theorem kl_27 : Cond.methodLink RL 27 yX11_at ∈ th_tb := kw_516
theorem kl_30 : Cond.methodLink RL 30 yX12_at ∈ th_tb := kw_1528
theorem kl_31 : Cond.methodLink RL 31 yX11_asks ∈ th_tb := kw_524
theorem kl_35 : Cond.methodLink RL 35 yX12_asks ∈ th_tb := kw_1536
theorem kl_36 : Cond.methodLink RL 36 yX11_terms ∈ th_tb := kw_551
theorem kl_39 : Cond.methodLink RL 39 yX12_terms ∈ th_tb := kw_1571
theorem kl_40 : Cond.methodLink RL 40 yX11_feed ∈ th_tb := kw_558
theorem kl_44 : Cond.methodLink RL 44 yX12_feed ∈ th_tb := kw_1589
theorem kl_45 : Cond.methodLink RL 45 yX11_end ∈ th_tb := kw_566
theorem kl_49 : Cond.methodLink RL 49 yX12_end ∈ th_tb := kw_1593
theorem kl_50 : Cond.methodLink RL 50 yX11_row ∈ th_tb := kw_570
theorem kl_54 : Cond.methodLink RL 54 yX12_row ∈ th_tb := kw_1581
theorem kl_55 : Cond.methodLink RL 55 yX11_fluff ∈ th_tb := kw_574
theorem kl_58 : Cond.methodLink RL 58 yX12_fluff ∈ th_tb := kw_1585
theorem kl_59 : Cond.methodLink RL 59 yX11_law ∈ th_tb := kw_578
theorem kl_62 : Cond.methodLink RL 62 yX12_law ∈ th_tb := kw_1597
theorem kl_63 : Cond.methodLink RL 63 yX11_orders ∈ th_tb := kw_772
theorem kl_66 : Cond.methodLink RL 66 yX12_orders ∈ th_tb := kw_1910
theorem kl_67 : Cond.methodLink RL 67 yX11_fault ∈ th_tb := kw_846
theorem kl_70 : Cond.methodLink RL 70 yX12_fault ∈ th_tb := kw_1692
theorem kl_71 : Cond.methodLink RL 71 yX11_stopped ∈ th_tb := kw_850
theorem kl_74 : Cond.methodLink RL 74 yX12_stopped ∈ th_tb := kw_1906
theorem kl_75 : Cond.methodLink RL 75 yX11_force ∈ th_tb := kw_854
theorem kl_78 : Cond.methodLink RL 78 yX12_force ∈ th_tb := kw_1696
theorem kl_79 : Cond.methodLink RL 79 yX11_lay ∈ th_tb := kw_859
theorem kl_82 : Cond.methodLink RL 82 yX12_lay ∈ th_tb := kw_1719
theorem kl_83 : Cond.methodLink RL 83 yX11_roll ∈ th_tb := kw_863
theorem kl_86 : Cond.methodLink RL 86 yX12_roll ∈ th_tb := kw_1742
theorem kl_87 : Cond.methodLink RL 87 yX11_mirror ∈ th_tb := kw_867
theorem kl_90 : Cond.methodLink RL 90 yX12_mirror ∈ th_tb := kw_1750
theorem kl_91 : Cond.methodLink RL 91 yX11_pass ∈ th_tb := kw_871
theorem kl_94 : Cond.methodLink RL 94 yX12_pass ∈ th_tb := kw_1758
theorem kl_95 : Cond.methodLink RL 95 yX11_undo ∈ th_tb := kw_875
theorem kl_98 : Cond.methodLink RL 98 yX12_undo ∈ th_tb := kw_1715
theorem kl_99 : Cond.methodLink RL 99 yX11_bare ∈ th_tb := kw_883
theorem kl_102 : Cond.methodLink RL 102 yX12_bare ∈ th_tb := kw_1704
theorem kl_103 : Cond.methodLink RL 103 yX11_fill ∈ th_tb := kw_898
theorem kl_106 : Cond.methodLink RL 106 yX12_fill ∈ th_tb := kw_1773
theorem kl_107 : Cond.methodLink RL 107 yX11_ways ∈ th_tb := kw_995
theorem kl_110 : Cond.methodLink RL 110 yX12_ways ∈ th_tb := kw_1818
theorem kl_111 : Cond.methodLink RL 111 yX11_cheapest ∈ th_tb := kw_1000
theorem kl_114 : Cond.methodLink RL 114 yX12_cheapest ∈ th_tb := kw_1822
theorem kl_115 : Cond.methodLink RL 115 yX11_halls ∈ th_tb := kw_1008
theorem kl_118 : Cond.methodLink RL 118 yX12_halls ∈ th_tb := kw_1839
theorem kl_119 : Cond.methodLink RL 119 yX11_inner ∈ th_tb := kw_1021
theorem kl_122 : Cond.methodLink RL 122 yX12_inner ∈ th_tb := kw_1847
theorem kl_123 : Cond.methodLink RL 123 yX11_crosses ∈ th_tb := kw_1040
theorem kl_126 : Cond.methodLink RL 126 yX12_crosses ∈ th_tb := kw_1855
theorem kl_127 : Cond.methodLink RL 127 yX11_currents ∈ th_tb := kw_1052
theorem kl_130 : Cond.methodLink RL 130 yX12_currents ∈ th_tb := kw_1863
theorem kl_131 : Cond.methodLink RL 131 yX11_fitting ∈ th_tb := kw_1060
theorem kl_134 : Cond.methodLink RL 134 yX12_fitting ∈ th_tb := kw_1867
theorem kl_135 : Cond.methodLink RL 135 yX11_alike ∈ th_tb := kw_1068
theorem kl_138 : Cond.methodLink RL 138 yX12_alike ∈ th_tb := kw_1871
theorem kl_139 : Cond.methodLink RL 139 yX11_free ∈ th_tb := kw_1076
theorem kl_142 : Cond.methodLink RL 142 yX12_free ∈ th_tb := kw_1831
theorem kl_143 : Cond.methodLink RL 143 yX11_seen ∈ th_tb := kw_1084
theorem kl_146 : Cond.methodLink RL 146 yX12_seen ∈ th_tb := kw_1875
theorem kl_147 : Cond.methodLink RL 147 yX11_forget ∈ th_tb := kw_1088
theorem kl_150 : Cond.methodLink RL 150 yX12_forget ∈ th_tb := kw_1879
theorem kl_151 : Cond.methodLink RL 151 yX11_floors ∈ th_tb := kw_1092
theorem kl_154 : Cond.methodLink RL 154 yX12_floors ∈ th_tb := kw_1883
theorem kl_155 : Cond.methodLink RL 155 yX11_look ∈ th_tb := kw_1101
theorem kl_158 : Cond.methodLink RL 158 yX12_look ∈ th_tb := kw_1891
theorem kl_159 : Cond.methodLink RL 159 yX11_few ∈ th_tb := kw_1148
theorem kl_163 : Cond.methodLink RL 163 yX12_few ∈ th_tb := kw_1899
theorem kl_164 : Cond.methodLink RL 164 yX11_compare ∈ th_tb := kw_1168
theorem kl_167 : Cond.methodLink RL 167 yX12_compare ∈ th_tb := kw_1826
theorem kl_168 : Cond.methodLink RL 168 yX11_years ∈ th_tb := kw_1172
theorem kl_171 : Cond.methodLink RL 171 yX12_years ∈ th_tb := kw_1938
theorem kl_172 : Cond.methodLink RL 172 yX11_drawn ∈ th_tb := kw_1185
theorem kl_175 : Cond.methodLink RL 175 yX12_drawn ∈ th_tb := kw_1949
theorem kl_176 : Cond.methodLink RL 176 yX11_image ∈ th_tb := kw_1189
theorem kl_179 : Cond.methodLink RL 179 yX12_image ∈ th_tb := kw_1398
theorem kl_180 : Cond.methodLink RL 180 yX11_back ∈ th_tb := kw_1204
theorem kl_183 : Cond.methodLink RL 183 yX12_back ∈ th_tb := kw_1413
theorem kl_184 : Cond.methodLink RL 184 yX11_count ∈ th_tb := kw_1208
theorem kl_187 : Cond.methodLink RL 187 yX12_count ∈ th_tb := kw_1953
theorem kl_188 : Cond.methodLink RL 188 yX11_status ∈ th_tb := kw_1216
theorem kl_191 : Cond.methodLink RL 191 yX12_status ∈ th_tb := kw_1961
theorem lw_K {args : Array Value} {s : State} (hts : ∀ w ∈ lw_tbl, w.before args s = true) (n0 : Nat) : ∃ G : th_G, G.2.2 = n0 ∧ th_K G s := by
  have ht : ∀ w ∈ th_tb, w.before args s = true := fun w hw => hts w (List.mem_filter.mp hw).1
  obtain ⟨c0, i0, k0⟩ := u_known (C := RX0) (T := TX0) (N := 1) (n := 1) ht cf_X0.2.1 (ht _ kw_368)
  obtain ⟨c1, i1, k1⟩ := u_known (C := RX1) (T := TX1) (N := 11) (n := 11) ht cf_X1.2.1 (ht _ kw_37)
  obtain ⟨c2, i2, k2⟩ := u_known (C := RX2) (T := TX2) (N := 1) (n := 1) ht cf_X2.2.1 (ht _ kw_248)
  obtain ⟨c3, i3, k3⟩ := u_known (C := RX3) (T := TX3) (N := 7) (n := 7) ht cf_X3.2.1 (ht _ kw_291)
  obtain ⟨c4, i4, k4⟩ := u_known (C := RX4) (T := TX4) (N := 5) (n := 5) ht cf_X4.2.1 (ht _ kw_260)
  obtain ⟨c5, i5, k5⟩ := u_known (C := RX5) (T := TX5) (N := 9) (n := 9) ht cf_X5.2.1 (ht _ kw_189)
  obtain ⟨c6, i6, k6⟩ := u_known (C := RX6) (T := TX6) (N := 4) (n := 4) ht cf_X6.2.1 (ht _ kw_225)
  obtain ⟨c7, i7, k7⟩ := u_known (C := RX7) (T := TX7) (N := 14) (n := 14) ht cf_X7.2.1 (ht _ kw_285)
  obtain ⟨c8, i8, k8⟩ := u_known (C := RX8) (T := TX8) (N := 8) (n := 8) ht cf_X8.2.1 (ht _ kw_31)
  obtain ⟨c9, i9, k9⟩ := u_known (C := RX9) (T := TX9) (N := 2) (n := 2) ht cf_X9.2.1 (ht _ kw_171)
  obtain ⟨c10, i10, k10⟩ := u_known (C := RX10) (T := TX10) (N := 4) (n := 4) ht cf_X10.2.1 (ht _ kw_107)
  obtain ⟨c11, i11, k11⟩ := u_known (C := RX11) (T := TX11) (N := 18) (n := 18) ht cf_X11.2.1 (ht _ kw_23)
  obtain ⟨c12, i12, k12⟩ := u_known (C := RX12) (T := TX12) (N := 57) (n := 57) ht cf_X12.2.1 (ht _ kw_1221)
  obtain ⟨a0, x0, y0, f0, g0, h0⟩ := Cond.arrayClass_spec (ht _ kw_104)
  obtain ⟨a1, x1, y1, f1, g1, h1⟩ := Cond.arrayClass_spec (ht _ kw_246)
  obtain ⟨a2, x2, y2, f2, g2, h2⟩ := Cond.arrayClass_spec (ht _ kw_187)
  obtain ⟨a3, x3, y3, f3, g3, h3⟩ := Cond.arrayClass_spec (ht _ kw_771)
  have o4 : (Cond.arrayOver (.object "CarpetHalls$Text")).before args s = true := hts _ kw_106
  obtain ⟨y4, a4, x4, e4, -, g4, h4, f4⟩ := Cond.arrayOver_spec o4
  have o5 : (Cond.arrayOver (.object "CarpetHalls$Stand")).before args s = true := hts _ kw_167
  obtain ⟨y5, a5, x5, e5, -, g5, h5, f5⟩ := Cond.arrayOver_spec o5
  refine ⟨((fun k => [c0, c1, c2, c3, c4, c5, c6, c7, c8, c9, c10, c11, c12].getD k c0, fun k => [i0, i1, i2, i3, i4, i5, i6, i7, i8, i9, i10, i11, i12].getD k i0), fun k => [a0, a1, a2, a3, a4, a5].getD k a0, n0), rfl, ⟨fun k q hq => ?_, fun k q hq => ?_⟩, va_AO.of o4, va_AO.of o5⟩
  · match k, hq with
    | 0, hq => have e9 := Option.some.inj hq; subst e9; exact k0
    | 1, hq => have e9 := Option.some.inj hq; subst e9; exact k1
    | 2, hq => have e9 := Option.some.inj hq; subst e9; exact k2
    | 3, hq => have e9 := Option.some.inj hq; subst e9; exact k3
    | 4, hq => have e9 := Option.some.inj hq; subst e9; exact k4
    | 5, hq => have e9 := Option.some.inj hq; subst e9; exact k5
    | 6, hq => have e9 := Option.some.inj hq; subst e9; exact k6
    | 7, hq => have e9 := Option.some.inj hq; subst e9; exact k7
    | 8, hq => have e9 := Option.some.inj hq; subst e9; exact k8
    | 9, hq => have e9 := Option.some.inj hq; subst e9; exact k9
    | 10, hq => have e9 := Option.some.inj hq; subst e9; exact k10
    | 11, hq => have e9 := Option.some.inj hq; subst e9; exact k11
    | 12, hq => have e9 := Option.some.inj hq; subst e9; exact k12
    | n + 13, hq => exact absurd (show n + 13 < 13 from (List.getElem?_eq_some_iff.mp hq).1) (by omega)
  · match k, hq with
    | 0, hq => have e9 := Option.some.inj hq; subst e9; exact ⟨lw_arr g0 h0, f0⟩
    | 1, hq => have e9 := Option.some.inj hq; subst e9; exact ⟨lw_arr g1 h1, f1⟩
    | 2, hq => have e9 := Option.some.inj hq; subst e9; exact ⟨lw_arr g2 h2, f2⟩
    | 3, hq => have e9 := Option.some.inj hq; subst e9; exact ⟨lw_arr g3 h3, f3⟩
    | 4, hq => have e9 := Option.some.inj hq; subst e9; exact ⟨lw_arr g4 h4, x4, y4, g4, h4, e4, f4⟩
    | 5, hq => have e9 := Option.some.inj hq; subst e9; exact ⟨lw_arr g5 h5, x5, y5, g5, h5, e5, f5⟩
    | n + 6, hq => exact absurd (show n + 6 < 6 from (List.getElem?_eq_some_iff.mp hq).1) (by omega)
