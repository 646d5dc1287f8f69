section TR
variable {p : Program} {l : Launch} {e : Env} {R : Room} {s : State} {m : MethodId} {args : Array Value} {below : List Frame} {meth : Method} {c : Code} {H : Heap} {locs : List Loc} {cells slots : Nat} {Q : State → Prop}
variable {cc : ByteArray} {pc : Nat} {ls : Array Slot} {rest : List Value}
theorem tr_iadd (hexec : p.tables.exec = Jvm.exec) (hb : c.code = cc) {x y : Int32} {a b : Int} (hdg : decode cc pc = .ok (.iadd, 1)) (ha : x.toInt = a) (hy : y.toInt = b) (h1 : -2147483648 ≤ a + b) (h2 : a + b ≤ 2147483647)
    (kk : ∀ z : Int32, z.toInt = a + b → W p l e R s m args below meth c H locs cells slots Q (F0 m (pc + 1) ls (.int z :: rest))) : W p l e R s m args below meth c H locs cells slots Q (F0 m pc ls (.int y :: .int x :: rest)) :=
  lv_iadd hexec hb hdg (kk _ (ti_add ha hy h1 h2))
theorem tr_isub (hexec : p.tables.exec = Jvm.exec) (hb : c.code = cc) {x y : Int32} {a b : Int} (hdg : decode cc pc = .ok (.isub, 1)) (ha : x.toInt = a) (hy : y.toInt = b) (h1 : -2147483648 ≤ a - b) (h2 : a - b ≤ 2147483647)
    (kk : ∀ z : Int32, z.toInt = a - b → W p l e R s m args below meth c H locs cells slots Q (F0 m (pc + 1) ls (.int z :: rest))) : W p l e R s m args below meth c H locs cells slots Q (F0 m pc ls (.int y :: .int x :: rest)) :=
  lv_isub hexec hb hdg (kk _ (ti_sub ha hy h1 h2))
theorem tr_imul (hexec : p.tables.exec = Jvm.exec) (hb : c.code = cc) {x y : Int32} {a b : Int} (hdg : decode cc pc = .ok (.imul, 1)) (ha : x.toInt = a) (hy : y.toInt = b) (h1 : -2147483648 ≤ a * b) (h2 : a * b ≤ 2147483647)
    (kk : ∀ z : Int32, z.toInt = a * b → W p l e R s m args below meth c H locs cells slots Q (F0 m (pc + 1) ls (.int z :: rest))) : W p l e R s m args below meth c H locs cells slots Q (F0 m pc ls (.int y :: .int x :: rest)) :=
  lv_imul hexec hb hdg (kk _ (ti_mul ha hy h1 h2))
theorem tr_idiv (hexec : p.tables.exec = Jvm.exec) (hb : c.code = cc) {x y : Int32} {a b : Int} (hdg : decode cc pc = .ok (.idiv, 1)) (ha : x.toInt = a) (hy : y.toInt = b) (h1 : 0 ≤ a) (h2 : 0 < b)
    (kk : ∀ z : Int32, z.toInt = a / b → W p l e R s m args below meth c H locs cells slots Q (F0 m (pc + 1) ls (.int z :: rest))) : W p l e R s m args below meth c H locs cells slots Q (F0 m pc ls (.int y :: .int x :: rest)) :=
  lv_idiv hexec hb hdg (fun e => by rw [e] at hy; have h0 : (0 : Int32).toInt = 0 := rfl; omega) (kk _ (ti_div ha hy h1 h2))
theorem tr_irem (hexec : p.tables.exec = Jvm.exec) (hb : c.code = cc) {x y : Int32} {a b : Int} (hdg : decode cc pc = .ok (.irem, 1)) (ha : x.toInt = a) (hy : y.toInt = b) (h1 : 0 ≤ a) (h2 : 0 < b)
    (kk : ∀ z : Int32, z.toInt = a % b → W p l e R s m args below meth c H locs cells slots Q (F0 m (pc + 1) ls (.int z :: rest))) : W p l e R s m args below meth c H locs cells slots Q (F0 m pc ls (.int y :: .int x :: rest)) :=
  lv_irem hexec hb hdg (fun e => by rw [e] at hy; have h0 : (0 : Int32).toInt = 0 := rfl; omega) (kk _ (ti_rem ha hy h1 h2))
theorem tr_icmp_lt (hexec : p.tables.exec = Jvm.exec) (hb : c.code = cc) {x y : Int32} {a b off : Int} {tgt : Nat} (hdg : decode cc pc = .ok (.if_icmp .lt off, 3)) (ht : (pc : Int) + off = (tgt : Int)) (ha : x.toInt = a) (hy : y.toInt = b)
    (kt : a < b → W p l e R s m args below meth c H locs cells slots Q (F0 m tgt ls rest)) (kf : b ≤ a → W p l e R s m args below meth c H locs cells slots Q (F0 m (pc + 3) ls rest)) : W p l e R s m args below meth c H locs cells slots Q (F0 m pc ls (.int y :: .int x :: rest)) :=
  lv_icmp_lt hexec hb hdg ht (fun q => kt (by have := ti_lt q; omega)) (fun q => kf (by have := ti_nlt q; omega))
theorem tr_icmp_ge (hexec : p.tables.exec = Jvm.exec) (hb : c.code = cc) {x y : Int32} {a b off : Int} {tgt : Nat} (hdg : decode cc pc = .ok (.if_icmp .ge off, 3)) (ht : (pc : Int) + off = (tgt : Int)) (ha : x.toInt = a) (hy : y.toInt = b)
    (kt : b ≤ a → W p l e R s m args below meth c H locs cells slots Q (F0 m tgt ls rest)) (kf : a < b → W p l e R s m args below meth c H locs cells slots Q (F0 m (pc + 3) ls rest)) : W p l e R s m args below meth c H locs cells slots Q (F0 m pc ls (.int y :: .int x :: rest)) :=
  lv_icmp_ge hexec hb hdg ht (fun q => kt (by have := ti_le q; omega)) (fun q => kf (by have := ti_nle q; omega))
theorem tr_icmp_gt (hexec : p.tables.exec = Jvm.exec) (hb : c.code = cc) {x y : Int32} {a b off : Int} {tgt : Nat} (hdg : decode cc pc = .ok (.if_icmp .gt off, 3)) (ht : (pc : Int) + off = (tgt : Int)) (ha : x.toInt = a) (hy : y.toInt = b)
    (kt : b < a → W p l e R s m args below meth c H locs cells slots Q (F0 m tgt ls rest)) (kf : a ≤ b → W p l e R s m args below meth c H locs cells slots Q (F0 m (pc + 3) ls rest)) : W p l e R s m args below meth c H locs cells slots Q (F0 m pc ls (.int y :: .int x :: rest)) :=
  lv_icmp_gt hexec hb hdg ht (fun q => kt (by have := ti_lt q; omega)) (fun q => kf (by have := ti_nlt q; omega))
theorem tr_icmp_le (hexec : p.tables.exec = Jvm.exec) (hb : c.code = cc) {x y : Int32} {a b off : Int} {tgt : Nat} (hdg : decode cc pc = .ok (.if_icmp .le off, 3)) (ht : (pc : Int) + off = (tgt : Int)) (ha : x.toInt = a) (hy : y.toInt = b)
    (kt : a ≤ b → W p l e R s m args below meth c H locs cells slots Q (F0 m tgt ls rest)) (kf : b < a → W p l e R s m args below meth c H locs cells slots Q (F0 m (pc + 3) ls rest)) : W p l e R s m args below meth c H locs cells slots Q (F0 m pc ls (.int y :: .int x :: rest)) :=
  lv_icmp_le hexec hb hdg ht (fun q => kt (by have := ti_le q; omega)) (fun q => kf (by have := ti_nle q; omega))
theorem tr_icmp_eq (hexec : p.tables.exec = Jvm.exec) (hb : c.code = cc) {x y : Int32} {a b off : Int} {tgt : Nat} (hdg : decode cc pc = .ok (.if_icmp .eq off, 3)) (ht : (pc : Int) + off = (tgt : Int)) (ha : x.toInt = a) (hy : y.toInt = b)
    (kt : a = b → W p l e R s m args below meth c H locs cells slots Q (F0 m tgt ls rest)) (kf : a ≠ b → W p l e R s m args below meth c H locs cells slots Q (F0 m (pc + 3) ls rest)) : W p l e R s m args below meth c H locs cells slots Q (F0 m pc ls (.int y :: .int x :: rest)) :=
  lv_icmp_eq hexec hb hdg ht (fun q => kt (by rw [← ha, ← hy, q])) (fun q => kf (by have := ti_ne q; omega))
theorem tr_icmp_ne (hexec : p.tables.exec = Jvm.exec) (hb : c.code = cc) {x y : Int32} {a b off : Int} {tgt : Nat} (hdg : decode cc pc = .ok (.if_icmp .ne off, 3)) (ht : (pc : Int) + off = (tgt : Int)) (ha : x.toInt = a) (hy : y.toInt = b)
    (kt : a ≠ b → W p l e R s m args below meth c H locs cells slots Q (F0 m tgt ls rest)) (kf : a = b → W p l e R s m args below meth c H locs cells slots Q (F0 m (pc + 3) ls rest)) : W p l e R s m args below meth c H locs cells slots Q (F0 m pc ls (.int y :: .int x :: rest)) :=
  lv_icmp_ne hexec hb hdg ht (fun q => kt (by have := ti_ne q; omega)) (fun q => kf (by rw [← ha, ← hy, q]))
theorem tr_if_lt (hexec : p.tables.exec = Jvm.exec) (hb : c.code = cc) {x : Int32} {a off : Int} {tgt : Nat} (hdg : decode cc pc = .ok (.ifCond .lt off, 3)) (ht : (pc : Int) + off = (tgt : Int)) (ha : x.toInt = a)
    (kt : a < 0 → W p l e R s m args below meth c H locs cells slots Q (F0 m tgt ls rest)) (kf : 0 ≤ a → W p l e R s m args below meth c H locs cells slots Q (F0 m (pc + 3) ls rest)) : W p l e R s m args below meth c H locs cells slots Q (F0 m pc ls (.int x :: rest)) :=
  have h0 : (0 : Int32).toInt = 0 := rfl
  lv_if_lt hexec hb hdg ht (fun q => kt (by have := ti_lt q; omega)) (fun q => kf (by have := ti_nlt q; omega))
theorem tr_if_ge (hexec : p.tables.exec = Jvm.exec) (hb : c.code = cc) {x : Int32} {a off : Int} {tgt : Nat} (hdg : decode cc pc = .ok (.ifCond .ge off, 3)) (ht : (pc : Int) + off = (tgt : Int)) (ha : x.toInt = a)
    (kt : 0 ≤ a → W p l e R s m args below meth c H locs cells slots Q (F0 m tgt ls rest)) (kf : a < 0 → W p l e R s m args below meth c H locs cells slots Q (F0 m (pc + 3) ls rest)) : W p l e R s m args below meth c H locs cells slots Q (F0 m pc ls (.int x :: rest)) :=
  have h0 : (0 : Int32).toInt = 0 := rfl
  lv_if_ge hexec hb hdg ht (fun q => kt (by have := ti_le q; omega)) (fun q => kf (by have := ti_nle q; omega))
theorem tr_if_gt (hexec : p.tables.exec = Jvm.exec) (hb : c.code = cc) {x : Int32} {a off : Int} {tgt : Nat} (hdg : decode cc pc = .ok (.ifCond .gt off, 3)) (ht : (pc : Int) + off = (tgt : Int)) (ha : x.toInt = a)
    (kt : 0 < a → W p l e R s m args below meth c H locs cells slots Q (F0 m tgt ls rest)) (kf : a ≤ 0 → W p l e R s m args below meth c H locs cells slots Q (F0 m (pc + 3) ls rest)) : W p l e R s m args below meth c H locs cells slots Q (F0 m pc ls (.int x :: rest)) :=
  have h0 : (0 : Int32).toInt = 0 := rfl
  lv_if_gt hexec hb hdg ht (fun q => kt (by have := ti_lt q; omega)) (fun q => kf (by have := ti_nlt q; omega))
theorem tr_if_le (hexec : p.tables.exec = Jvm.exec) (hb : c.code = cc) {x : Int32} {a off : Int} {tgt : Nat} (hdg : decode cc pc = .ok (.ifCond .le off, 3)) (ht : (pc : Int) + off = (tgt : Int)) (ha : x.toInt = a)
    (kt : a ≤ 0 → W p l e R s m args below meth c H locs cells slots Q (F0 m tgt ls rest)) (kf : 0 < a → W p l e R s m args below meth c H locs cells slots Q (F0 m (pc + 3) ls rest)) : W p l e R s m args below meth c H locs cells slots Q (F0 m pc ls (.int x :: rest)) :=
  have h0 : (0 : Int32).toInt = 0 := rfl
  lv_if_le hexec hb hdg ht (fun q => kt (by have := ti_le q; omega)) (fun q => kf (by have := ti_nle q; omega))
theorem tr_if_eq (hexec : p.tables.exec = Jvm.exec) (hb : c.code = cc) {x : Int32} {a off : Int} {tgt : Nat} (hdg : decode cc pc = .ok (.ifCond .eq off, 3)) (ht : (pc : Int) + off = (tgt : Int)) (ha : x.toInt = a)
    (kt : a = 0 → W p l e R s m args below meth c H locs cells slots Q (F0 m tgt ls rest)) (kf : a ≠ 0 → W p l e R s m args below meth c H locs cells slots Q (F0 m (pc + 3) ls rest)) : W p l e R s m args below meth c H locs cells slots Q (F0 m pc ls (.int x :: rest)) :=
  have h0 : (0 : Int32).toInt = 0 := rfl
  lv_if_eq hexec hb hdg ht (fun q => kt (by rw [← ha, q]; rfl)) (fun q => kf (by have := ti_ne q; omega))
theorem tr_if_ne (hexec : p.tables.exec = Jvm.exec) (hb : c.code = cc) {x : Int32} {a off : Int} {tgt : Nat} (hdg : decode cc pc = .ok (.ifCond .ne off, 3)) (ht : (pc : Int) + off = (tgt : Int)) (ha : x.toInt = a)
    (kt : a ≠ 0 → W p l e R s m args below meth c H locs cells slots Q (F0 m tgt ls rest)) (kf : a = 0 → W p l e R s m args below meth c H locs cells slots Q (F0 m (pc + 3) ls rest)) : W p l e R s m args below meth c H locs cells slots Q (F0 m pc ls (.int x :: rest)) :=
  have h0 : (0 : Int32).toInt = 0 := rfl
  lv_if_ne hexec hb hdg ht (fun q => kt (by have := ti_ne q; omega)) (fun q => kf (by rw [← ha, q]; rfl))
end TR
section THR
variable {p : Program} {l : Launch} {e : Env} {R : Room} {s : State} {m : MethodId} {args : Array Value} {below : List Frame} {meth : Method} {c : Code} {H H0 : Heap} {locs : List Loc} {cells slots : Nat} {Q : State → Prop}
variable {cc : ByteArray} {pc : Nat} {ls : Array Slot} {rest : List Value} {G : th_G} {Γ Γ0 : th_Ga} {L : List (Nat × Nat)}
/-- a class of the tables: its row, its words, its fields' types and names -/
def th_CF (k : Nat) (C : String) (T : u_T) (N : Nat) (ty : Nat → FieldType) : Prop := th_cl[k]? = some (C, T, N) ∧ (∀ w ∈ u_ws C T N, w ∈ th_tb) ∧ (∀ j, j < N → parseFieldDescriptor (T j).2.2.1 = some (ty j)) ∧ (∀ a, a < N → ∀ b, b < N → a ≠ b → (T a).2.1 ≠ (T b).2.1) ∧ (∀ j, j < N → (T j).1 = C)
/-- what the tables say of the classes and arrays of the system -/
def th_K (G : th_G) (U : State) : Prop := va_K G.1 th_cl (th_ty G.2.1) U ∧ va_AO "CarpetHalls$Text" U ∧ va_AO "CarpetHalls$Stand" U
theorem th_K_moved {u U : State} (hvm : u.vm.Alike U.vm) (h : th_K G u) : th_K G U := ⟨va_K.moved hvm h.1, va_AO.moved hvm h.2.1, va_AO.moved hvm h.2.2⟩
/-- what a method's walk stands on -/
def th_C (p : Program) (s : State) (m : MethodId) (args : Array Value) (c : Code) (cc : ByteArray) (nL : Nat) (own : String) (G : th_G) : Prop := p.tables.exec = Jvm.exec ∧ c.code = cc ∧ c.maxLocals = nL ∧ s.vm.findClass own = some m.cls ∧ (∀ w ∈ th_tb, w.before args s = true) ∧ th_K G s
/-- the cells' state in a walk: the types hold, outside the system nothing has changed, of the system only L has -/
def th_B (G : th_G) (Γ Γ0 : th_Ga) (L : List (Nat × Nat)) (H0 H : Heap) (locs : List Loc) : Prop := th_I G Γ H ∧ va_S (fun q => G.2.2 ≤ q) H0 H locs ∧ th_F G Γ0 L H0 H
theorem th_apart {nL : Nat} {own : String} (hC : th_C p s m args c cc nL own G) {k : Nat} {C : String} {T : u_T} {N : Nat} {ty : Nat → FieldType} (hcf : th_CF k C T N ty) : ∀ x y, x < N → y < N → x ≠ y → G.1.2 k x ≠ G.1.2 k y :=
  va_apart (own := own) (D := G.1) hC.2.2.2.2.1 hcf.2.1 ty hcf.2.2.1 hcf.2.2.2.1 hC.2.2.2.2.2.1 hcf.1
theorem th_get {nL : Nat} {own : String} (hC : th_C p s m args c cc nL own G) {k : Nat} {C : String} {T : u_T} {N : Nat} {ty : Nat → FieldType} (hcf : th_CF k C T N ty) (hI : th_I G Γ H) {a r o j index : Nat} {fs : List th_sp} {q : th_sp} (ha : Γ a = (r, o)) (hr : th_ro r = some (.inl (k, fs))) (hN : fs.length = N) (hq : fs[j]? = some q)
    (hl : Cond.fieldLink own index C (T j).2.1 (T j).2.2.1 ∈ th_tb) (hdg : decode cc pc = .ok (.getfield index, 3))
    (kk : ∀ v : Value, th_sl H a (G.1.2 k j) = v → th_sat Γ a q v → W p l e R s m args below meth c H locs cells slots Q (F0 m (pc + 3) ls (v :: rest))) : W p l e R s m args below meth c H locs cells slots Q (F0 m pc ls (.ref a :: rest)) := by
  obtain ⟨hx, hb, -, hown, hts, hK, -⟩ := hC
  obtain ⟨hc, hin, hty, hnm, hdc⟩ := hcf
  obtain ⟨-, ⟨cell, q1, q2, q3, q4⟩, h5⟩ := hI a r o _ ha hr
  have hj : j < N := by rw [← hN]; exact (List.getElem?_eq_some_iff.mp hq).1
  obtain ⟨hS, hfc, kC, hkC, hkind⟩ := hK.1 k _ hc
  obtain ⟨cf, kf, fi, f, hi, hsl⟩ := hS j hj
  have hi' := hi
  rw [hdc j hj] at hi'
  refine W.getf hx hb hown (hts _ hl) hi' (u_facts hfc hkC (u_lays hts hin hj) hi).1 q1 (by rw [q3]; exact fun h => by cases h) (v := th_sl H a (G.1.2 k j)) ?_ rfl rfl hdg (kk _ rfl (h5 j q hq))
  rw [hsl, q4 j (by rw [hN]; exact hj)]
theorem th_getN {nL : Nat} {own host : String} (hC : th_C p s m args c cc nL own G) {k : Nat} {C : String} {T : u_T} {N : Nat} {ty : Nat → FieldType} (hcf : th_CF k C T N ty) (hI : th_I G Γ H) {a r o j index : Nat} {fs : List th_sp} {q : th_sp} (ha : Γ a = (r, o)) (hr : th_ro r = some (.inl (k, fs))) (hN : fs.length = N) (hq : fs[j]? = some q)
    (hl : Cond.fieldLinkNest own index C (T j).2.1 (T j).2.2.1 host ∈ th_tb) (hdg : decode cc pc = .ok (.getfield index, 3))
    (kk : ∀ v : Value, th_sl H a (G.1.2 k j) = v → th_sat Γ a q v → W p l e R s m args below meth c H locs cells slots Q (F0 m (pc + 3) ls (v :: rest))) : W p l e R s m args below meth c H locs cells slots Q (F0 m pc ls (.ref a :: rest)) := by
  obtain ⟨hx, hb, -, hown, hts, hK, -⟩ := hC
  obtain ⟨hc, hin, hty, hnm, hdc⟩ := hcf
  obtain ⟨-, ⟨cell, q1, q2, q3, q4⟩, h5⟩ := hI a r o _ ha hr
  have hj : j < N := by rw [← hN]; exact (List.getElem?_eq_some_iff.mp hq).1
  obtain ⟨hS, hfc, kC, hkC, hkind⟩ := hK.1 k _ hc
  obtain ⟨cf, kf, fi, f, hi, hsl⟩ := hS j hj
  have hi' := hi
  rw [hdc j hj] at hi'
  refine va_Wgetf hx hb hown (hts _ hl) hi' (u_facts hfc hkC (u_lays hts hin hj) hi).1 q1 (by rw [q3]; exact fun h => by cases h) (v := th_sl H a (G.1.2 k j)) ?_ rfl rfl hdg (kk _ rfl (h5 j q hq))
  rw [hsl, q4 j (by rw [hN]; exact hj)]
theorem th_getI {nL : Nat} {own : String} (hC : th_C p s m args c cc nL own G) {k : Nat} {C : String} {T : u_T} {N : Nat} {ty : Nat → FieldType} (hcf : th_CF k C T N ty) (hI : th_I G Γ H) {a r o j index : Nat} {fs : List th_sp} {lo hi : Int} (ha : Γ a = (r, o)) (hr : th_ro r = some (.inl (k, fs))) (hN : fs.length = N) (hq : fs[j]? = some (0, lo, hi))
    (hl : Cond.fieldLink own index C (T j).2.1 (T j).2.2.1 ∈ th_tb) (hdg : decode cc pc = .ok (.getfield index, 3))
    (kk : ∀ x : Int32, th_sl H a (G.1.2 k j) = .int x → lo ≤ x.toInt → x.toInt ≤ hi → W p l e R s m args below meth c H locs cells slots Q (F0 m (pc + 3) ls (.int x :: rest))) : W p l e R s m args below meth c H locs cells slots Q (F0 m pc ls (.ref a :: rest)) :=
  th_get hC hcf hI ha hr hN hq hl hdg (fun v hv hs => by obtain ⟨x, rfl, h1, h2⟩ := hs; exact kk x hv h1 h2)
theorem th_getR {nL : Nat} {own : String} (hC : th_C p s m args c cc nL own G) {k : Nat} {C : String} {T : u_T} {N : Nat} {ty : Nat → FieldType} (hcf : th_CF k C T N ty) (hI : th_I G Γ H) {a r o j index r2 : Nat} {fs : List th_sp} {hi : Int} (ha : Γ a = (r, o)) (hr : th_ro r = some (.inl (k, fs))) (hN : fs.length = N) (hq : fs[j]? = some (2, (r2 : Int), hi))
    (hl : Cond.fieldLink own index C (T j).2.1 (T j).2.2.1 ∈ th_tb) (hdg : decode cc pc = .ok (.getfield index, 3))
    (kk : ∀ b : Nat, th_sl H a (G.1.2 k j) = .ref b → Γ b = (r2, 0) → W p l e R s m args below meth c H locs cells slots Q (F0 m (pc + 3) ls (.ref b :: rest))) : W p l e R s m args below meth c H locs cells slots Q (F0 m pc ls (.ref a :: rest)) :=
  th_get hC hcf hI ha hr hN hq hl hdg (fun v hv hs => by obtain ⟨b, rfl, h1⟩ := hs; exact kk b hv (by simpa using h1))
theorem th_getO {nL : Nat} {own : String} (hC : th_C p s m args c cc nL own G) {k : Nat} {C : String} {T : u_T} {N : Nat} {ty : Nat → FieldType} (hcf : th_CF k C T N ty) (hI : th_I G Γ H) {a r o j index r2 : Nat} {fs : List th_sp} {hi : Int} (ha : Γ a = (r, o)) (hr : th_ro r = some (.inl (k, fs))) (hN : fs.length = N) (hq : fs[j]? = some (4, (r2 : Int), hi))
    (hl : Cond.fieldLink own index C (T j).2.1 (T j).2.2.1 ∈ th_tb) (hdg : decode cc pc = .ok (.getfield index, 3))
    (kk : ∀ b : Nat, th_sl H a (G.1.2 k j) = .ref b → Γ b = (r2, a) → W p l e R s m args below meth c H locs cells slots Q (F0 m (pc + 3) ls (.ref b :: rest))) : W p l e R s m args below meth c H locs cells slots Q (F0 m pc ls (.ref a :: rest)) :=
  th_get hC hcf hI ha hr hN hq hl hdg (fun v hv hs => by obtain ⟨b, rfl, h1⟩ := hs; exact kk b hv (by simpa using h1))
theorem th_put {nL : Nat} {own : String} (hC : th_C p s m args c cc nL own G) {k : Nat} {C : String} {T : u_T} {N : Nat} {ty : Nat → FieldType} (hcf : th_CF k C T N ty) (hB : th_B G Γ Γ0 L H0 H locs) {a r o j index : Nat} {fs : List th_sp} {q : th_sp} {v : Value} (ha : Γ a = (r, o)) (ha0 : Γ0 a = (r, o) ∨ th_ro (Γ0 a).1 = none) (hr : th_ro r = some (.inl (k, fs))) (hN : fs.length = N) (hq : fs[j]? = some q)
    (hs : th_sat Γ a q v) (hL : th_in L r j = true) (hfin : (T j).2.2.2 = false) (hn : narrow (ty j) v = v) (hfit : fits (ty j) v = true)
    (hl : Cond.fieldLink own index C (T j).2.1 (T j).2.2.1 ∈ th_tb) (hdg : decode cc pc = .ok (.putfield index, 3))
    (kk : ∀ (H1 : Heap) (locs1 : List Loc), th_B G Γ Γ0 L H0 H1 locs1 → th_F G Γ [(r, j)] H H1 → th_St H H1 a (G.1.2 k j) v → W p l e R s m args below meth c H1 locs1 cells slots Q (F0 m (pc + 3) ls rest)) : W p l e R s m args below meth c H locs cells slots Q (F0 m pc ls (v :: .ref a :: rest)) := by
  have hap := th_apart hC hcf
  obtain ⟨hx, hb, -, hown, hts, hK, -⟩ := hC
  obtain ⟨hc, hin, hty, hnm, hdc⟩ := hcf
  obtain ⟨hI, hS0, hF⟩ := hB
  obtain ⟨hsz, ⟨cell, q1, q2, q3, q4⟩, h5⟩ := hI a r o _ ha hr
  have hj : j < N := by rw [← hN]; exact (List.getElem?_eq_some_iff.mp hq).1
  have hj' : j < fs.length := by rw [hN]; exact hj
  obtain ⟨hS, hfc, kC, hkC, hkind⟩ := hK.1 k _ hc
  obtain ⟨cf, kf, fi, f, hi, hsl⟩ := hS j hj
  have hi' := hi
  rw [hdc j hj] at hi'
  have hlay := hts _ (hin _ (u_in_lay hj))
  unfold u_lay at hlay
  rw [if_neg (by rw [hfin]; decide)] at hlay
  have hst := (u_facts hfc hkC (u_lays hts hin hj) hi).1
  have h6 := u_store hfc hkC hkind hlay hi (hty j hj) hn hfit
  have hlt : f.slot < cell.slots.size := by rw [hsl]; exact k2_hasslot (q4 j hj')
  refine W.putK hx hb (f := f) ⟨hown, hts _ hl, ⟨_, _, _, hi'⟩, hst⟩ (by rw [q2]; exact h6) q1 q3 hlt rfl rfl hdg fun H' e1 e2 e3 => ?_
  have hst2 := th_St_of q1 hlt e1 e2 e3
  rw [hsl] at e1 hst2 ⊢
  refine kk H' _ ⟨th_I_put hI ha hr q1 hj' (by rw [hN]; exact hap) e1 e3 (fun q' hq' => by rw [hq] at hq'; cases hq'; exact hs), hS0.put e2 e3 hsz, ?_⟩ (th_F_put th_F_rf ha hr hj' (by rw [hN]; exact hap) hst2 (by simp [th_in])) hst2
  rcases ha0 with ha0 | ha0
  · exact th_F_put hF ha0 hr hj' (by rw [hN]; exact hap) hst2 hL
  · exact th_F_new hF ha0 hst2
theorem th_F_o {L : List (Nat × Nat)} {H1 : Heap} (hF : th_F G Γ L H H1) {a r o k j : Nat} {fs : List th_sp} (ha : Γ a = (r, o)) (hr : th_ro r = some (.inl (k, fs))) (hj : j < fs.length) (hL : th_in L r j = false) : th_sl H1 a (G.1.2 k j) = th_sl H a (G.1.2 k j) := (hF.2 a r o _ ha hr).2 j hj hL
theorem th_F_a {L : List (Nat × Nat)} {H1 : Heap} (hF : th_F G Γ L H H1) {a r o : Nat} {x : Nat × Nat × Nat × (Nat → th_sp)} (ha : Γ a = (r, o)) (hr : th_ro r = some (.inr x)) (hL : th_in L r 0 = false) (i : Nat) : th_sl H1 a i = th_sl H a i := (hF.2 a r o _ ha hr).2 hL i
theorem th_F_l {L : List (Nat × Nat)} {H1 : Heap} (hF : th_F G Γ L H H1) {a r o : Nat} {d : th_De} (ha : Γ a = (r, o)) (hr : th_ro r = some d) : th_ln H1 a = th_ln H a := (hF.2 a r o _ ha hr).1
theorem th_tys {t0 : Nat} {ty : FieldType} {nL : Nat} {own : String} (hC : th_C p s m args c cc nL own G) (ht : (th_ty G.2.1)[t0]? = some (G.2.1 t0, ty)) : ArrOfT s (G.2.1 t0) ty := (hC.2.2.2.2.2.1.2 t0 _ ht).1
theorem th_ald0 {a r o t n1 n2 : Nat} {es : Nat → th_sp} (hI : th_I G Γ H) (ha : Γ a = (r, o)) (hr : th_ro r = some (.inr (t, n1, n2, es))) : ∃ n : Nat, n1 ≤ n ∧ n ≤ n2 ∧ H[a]? = some (arrV (G.2.1 t) n (th_sl H a)) ∧ th_ln H a = n ∧ ∀ i : Nat, i < n → th_sat Γ a (es i) (th_sl H a i) := by
  obtain ⟨-, n, h1, h2, h3, h4⟩ := hI a r o _ ha hr
  exact ⟨n, h1, h2, h3, by rw [th_ln_at h3, arrV_size], h4⟩
theorem th_alen {nL : Nat} {own : String} (hC : th_C p s m args c cc nL own G) (hI : th_I G Γ H) {a r o t n1 n2 : Nat} {es : Nat → th_sp} {ty : FieldType} (ha : Γ a = (r, o)) (hr : th_ro r = some (.inr (t, n1, n2, es))) (ht : (th_ty G.2.1)[t]? = some (G.2.1 t, ty)) (hn2 : n2 ≤ 2147483647) (hdg : decode cc pc = .ok (.arraylength, 1))
    (kk : ∀ x : Int32, x.toInt = (th_ln H a : Int) → n1 ≤ th_ln H a → th_ln H a ≤ n2 → W p l e R s m args below meth c H locs cells slots Q (F0 m (pc + 1) ls (.int x :: rest))) : W p l e R s m args below meth c H locs cells slots Q (F0 m pc ls (.ref a :: rest)) := by
  obtain ⟨n, h1, h2, h3, h4, h5⟩ := th_ald0 hI ha hr
  refine W.alen (n := Int32.ofNat n) hC.1 hC.2.1 h3 (th_tys hC ht n (th_sl H a)) (by rw [arrV_size] <;> rfl) rfl rfl hdg (kk _ ?_ (by rw [h4]; exact h1) (by rw [h4]; exact h2))
  rw [h4]
  exact nI_toInt (n := n) (by omega)
theorem th_iald {nL : Nat} {own : String} (hC : th_C p s m args c cc nL own G) (hI : th_I G Γ H) {a r o t n1 n2 : Nat} {es : Nat → th_sp} (ha : Γ a = (r, o)) (hr : th_ro r = some (.inr (t, n1, n2, es))) (ht : (th_ty G.2.1)[t]? = some (G.2.1 t, .int)) {i : Int32} {b lo hi : Int} (hi0 : i.toInt = b) (h0 : 0 ≤ b) (h1 : b < (th_ln H a : Int)) (he : es b.toNat = (0, lo, hi)) (hdg : decode cc pc = .ok (.iaload, 1))
    (kk : ∀ x : Int32, th_sl H a b.toNat = .int x → lo ≤ x.toInt → x.toInt ≤ hi → W p l e R s m args below meth c H locs cells slots Q (F0 m (pc + 1) ls (.int x :: rest))) : W p l e R s m args below meth c H locs cells slots Q (F0 m pc ls (.int i :: .ref a :: rest)) := by
  obtain ⟨n, -, -, h3, h4, h5⟩ := th_ald0 hI ha hr
  rw [h4] at h1
  have hb : i.toNatClampNeg = b.toNat := by rw [← hi0]; rfl
  have hlt : b.toNat < n := by omega
  obtain ⟨x, hx, l1, l2⟩ : ∃ x : Int32, th_sl H a b.toNat = .int x ∧ lo ≤ x.toInt ∧ x.toInt ≤ hi := by
    have h6 := h5 _ hlt
    rw [he] at h6
    exact h6
  refine W.iald (v := .int x) hC.1 hC.2.1 h3 (th_tys hC ht n (th_sl H a)) (fun q => by cases q) ?_ ?_ rfl rfl hdg (kk x hx l1 l2)
  · rw [arrV_size, hb]
    exact ti_in (x := i) (n := n) (by omega) (by omega) |> fun z => by rw [← hb]; exact z
  · rw [hb, arrV_read _ _ hlt, hx]
theorem th_lald {nL : Nat} {own : String} (hC : th_C p s m args c cc nL own G) (hI : th_I G Γ H) {a r o t n1 n2 : Nat} {es : Nat → th_sp} (ha : Γ a = (r, o)) (hr : th_ro r = some (.inr (t, n1, n2, es))) (ht : (th_ty G.2.1)[t]? = some (G.2.1 t, .long)) {i : Int32} {b lo hi : Int} (hi0 : i.toInt = b) (h0 : 0 ≤ b) (h1 : b < (th_ln H a : Int)) (he : es b.toNat = (1, lo, hi)) (hdg : decode cc pc = .ok (.laload, 1))
    (kk : ∀ x : Int64, th_sl H a b.toNat = .long x → lo ≤ x.toInt → x.toInt ≤ hi → W p l e R s m args below meth c H locs cells slots Q (F0 m (pc + 1) ls (.long x :: rest))) : W p l e R s m args below meth c H locs cells slots Q (F0 m pc ls (.int i :: .ref a :: rest)) := by
  obtain ⟨n, -, -, h3, h4, h5⟩ := th_ald0 hI ha hr
  rw [h4] at h1
  have hb : i.toNatClampNeg = b.toNat := by rw [← hi0]; rfl
  have hlt : b.toNat < n := by omega
  obtain ⟨x, hx, l1, l2⟩ : ∃ x : Int64, th_sl H a b.toNat = .long x ∧ lo ≤ x.toInt ∧ x.toInt ≤ hi := by
    have h6 := h5 _ hlt
    rw [he] at h6
    exact h6
  refine W.lald (v := .long x) hC.1 hC.2.1 h3 (th_tys hC ht n (th_sl H a)) (fun q => by cases q) ?_ ?_ rfl rfl hdg (kk x hx l1 l2)
  · rw [arrV_size, hb]
    exact ti_in (x := i) (n := n) (by omega) (by omega) |> fun z => by rw [← hb]; exact z
  · rw [hb, arrV_read _ _ hlt, hx]
theorem th_aald {nL : Nat} {own : String} (hC : th_C p s m args c cc nL own G) (hI : th_I G Γ H) {a r o t n1 n2 : Nat} {es : Nat → th_sp} {C : String} (ha : Γ a = (r, o)) (hr : th_ro r = some (.inr (t, n1, n2, es))) (ht : (th_ty G.2.1)[t]? = some (G.2.1 t, .object C)) {i : Int32} {b : Int} {q : th_sp} (hi0 : i.toInt = b) (h0 : 0 ≤ b) (h1 : b < (th_ln H a : Int)) (he : es b.toNat = q) (hdg : decode cc pc = .ok (.aaload, 1))
    (kk : ∀ v : Value, th_sl H a b.toNat = v → th_sat Γ a q v → W p l e R s m args below meth c H locs cells slots Q (F0 m (pc + 1) ls (v :: rest))) : W p l e R s m args below meth c H locs cells slots Q (F0 m pc ls (.int i :: .ref a :: rest)) := by
  obtain ⟨n, -, -, h3, h4, h5⟩ := th_ald0 hI ha hr
  rw [h4] at h1
  have hb : i.toNatClampNeg = b.toNat := by rw [← hi0]; rfl
  have hlt : b.toNat < n := by omega
  have h6 := h5 _ hlt
  rw [he] at h6
  refine W.aald (v := th_sl H a b.toNat) (ty := .object C) hC.1 hC.2.1 h3 (th_tys hC ht n (th_sl H a)) rfl (fun q => by cases q) ?_ ?_ rfl rfl hdg (kk _ rfl h6)
  · rw [arrV_size, hb]
    exact ti_in (x := i) (n := n) (by omega) (by omega) |> fun z => by rw [← hb]; exact z
  · rw [hb, arrV_read _ _ hlt]
theorem th_iast {nL : Nat} {own : String} (hC : th_C p s m args c cc nL own G) (hB : th_B G Γ Γ0 L H0 H locs) {a r o t n1 n2 : Nat} {es : Nat → th_sp} (ha : Γ a = (r, o)) (ha0 : Γ0 a = (r, o) ∨ th_ro (Γ0 a).1 = none) (hr : th_ro r = some (.inr (t, n1, n2, es))) (ht : (th_ty G.2.1)[t]? = some (G.2.1 t, .int)) (hL : th_in L r 0 = true) {i x : Int32} {b : Int} (hi0 : i.toInt = b) (h0 : 0 ≤ b) (h1 : b < (th_ln H a : Int)) (he : th_sat Γ a (es b.toNat) (.int x)) (hdg : decode cc pc = .ok (.iastore, 1))
    (kk : ∀ (H1 : Heap) (locs1 : List Loc), th_B G Γ Γ0 L H0 H1 locs1 → th_F G Γ [(r, 0)] H H1 → th_St H H1 a b.toNat (.int x) → W p l e R s m args below meth c H1 locs1 cells slots Q (F0 m (pc + 1) ls rest)) : W p l e R s m args below meth c H locs cells slots Q (F0 m pc ls (.int x :: .int i :: .ref a :: rest)) := by
  obtain ⟨hI, hS0, hF⟩ := hB
  obtain ⟨n, -, -, h3, h4, h5⟩ := th_ald0 hI ha hr
  rw [h4] at h1
  have hsz := (hI a r o _ ha hr).1
  have hb : i.toNatClampNeg = b.toNat := by rw [← hi0]; rfl
  have hlt : b.toNat < n := by omega
  refine W.iast hC.1 hC.2.1 h3 (th_tys hC ht n (th_sl H a)) (fun q => by cases q) ?_ rfl rfl hdg fun H1 e1 z oq => ?_
  · rw [arrV_size, hb]
    exact ti_in (x := i) (n := n) (by omega) (by omega) |> fun z => by rw [← hb]; exact z
  · rw [hb] at e1 ⊢
    have hst := th_St_of h3 (by rw [arrV_size]; exact hlt) e1 z oq
    refine kk H1 _ ⟨th_I_sto hI ha hr h3 hlt e1 oq he, hS0.put z oq hsz, ?_⟩ (th_F_sto th_F_rf ha hr hst (by simp [th_in])) hst
    rcases ha0 with ha0 | ha0
    · exact th_F_sto hF ha0 hr hst hL
    · exact th_F_new hF ha0 hst
theorem th_last {nL : Nat} {own : String} (hC : th_C p s m args c cc nL own G) (hB : th_B G Γ Γ0 L H0 H locs) {a r o t n1 n2 : Nat} {es : Nat → th_sp} (ha : Γ a = (r, o)) (ha0 : Γ0 a = (r, o) ∨ th_ro (Γ0 a).1 = none) (hr : th_ro r = some (.inr (t, n1, n2, es))) (ht : (th_ty G.2.1)[t]? = some (G.2.1 t, .long)) (hL : th_in L r 0 = true) {i : Int32} {x : Int64} {b : Int} (hi0 : i.toInt = b) (h0 : 0 ≤ b) (h1 : b < (th_ln H a : Int)) (he : th_sat Γ a (es b.toNat) (.long x)) (hdg : decode cc pc = .ok (.lastore, 1))
    (kk : ∀ (H1 : Heap) (locs1 : List Loc), th_B G Γ Γ0 L H0 H1 locs1 → th_F G Γ [(r, 0)] H H1 → th_St H H1 a b.toNat (.long x) → W p l e R s m args below meth c H1 locs1 cells slots Q (F0 m (pc + 1) ls rest)) : W p l e R s m args below meth c H locs cells slots Q (F0 m pc ls (.long x :: .int i :: .ref a :: rest)) := by
  obtain ⟨hI, hS0, hF⟩ := hB
  obtain ⟨n, -, -, h3, h4, h5⟩ := th_ald0 hI ha hr
  rw [h4] at h1
  have hsz := (hI a r o _ ha hr).1
  have hb : i.toNatClampNeg = b.toNat := by rw [← hi0]; rfl
  have hlt : b.toNat < n := by omega
  refine W.last hC.1 hC.2.1 h3 (th_tys hC ht n (th_sl H a)) (fun q => by cases q) ?_ rfl rfl hdg fun H1 e1 z oq => ?_
  · rw [arrV_size, hb]
    exact ti_in (x := i) (n := n) (by omega) (by omega) |> fun z => by rw [← hb]; exact z
  · rw [hb] at e1 ⊢
    have hst := th_St_of h3 (by rw [arrV_size]; exact hlt) e1 z oq
    refine kk H1 _ ⟨th_I_sto hI ha hr h3 hlt e1 oq he, hS0.put z oq hsz, ?_⟩ (th_F_sto th_F_rf ha hr hst (by simp [th_in])) hst
    rcases ha0 with ha0 | ha0
    · exact th_F_sto hF ha0 hr hst hL
    · exact th_F_new hF ha0 hst
theorem th_ialdF {nL : Nat} {own : String} (hC : th_C p s m args c cc nL own G) (hI : th_I G Γ H) {a r o t n1 n2 : Nat} {es : Nat → th_sp} (ha : Γ a = (r, o)) (hr : th_ro r = some (.inr (t, n1, n2, es))) (ht : (th_ty G.2.1)[t]? = some (G.2.1 t, .int)) {i : Int32} {b lo hi : Int} (hi0 : i.toInt = b) (h0 : 0 ≤ b) (h1 : b < (n1 : Int)) (he : es b.toNat = (0, lo, hi)) (hdg : decode cc pc = .ok (.iaload, 1))
    (kk : ∀ x : Int32, th_sl H a b.toNat = .int x → lo ≤ x.toInt → x.toInt ≤ hi → W p l e R s m args below meth c H locs cells slots Q (F0 m (pc + 1) ls (.int x :: rest))) : W p l e R s m args below meth c H locs cells slots Q (F0 m pc ls (.int i :: .ref a :: rest)) :=
  th_iald hC hI ha hr ht hi0 h0 (by obtain ⟨n, g1, -, -, g4, -⟩ := th_ald0 hI ha hr; omega) he hdg kk
theorem th_laldF {nL : Nat} {own : String} (hC : th_C p s m args c cc nL own G) (hI : th_I G Γ H) {a r o t n1 n2 : Nat} {es : Nat → th_sp} (ha : Γ a = (r, o)) (hr : th_ro r = some (.inr (t, n1, n2, es))) (ht : (th_ty G.2.1)[t]? = some (G.2.1 t, .long)) {i : Int32} {b lo hi : Int} (hi0 : i.toInt = b) (h0 : 0 ≤ b) (h1 : b < (n1 : Int)) (he : es b.toNat = (1, lo, hi)) (hdg : decode cc pc = .ok (.laload, 1))
    (kk : ∀ x : Int64, th_sl H a b.toNat = .long x → lo ≤ x.toInt → x.toInt ≤ hi → W p l e R s m args below meth c H locs cells slots Q (F0 m (pc + 1) ls (.long x :: rest))) : W p l e R s m args below meth c H locs cells slots Q (F0 m pc ls (.int i :: .ref a :: rest)) :=
  th_lald hC hI ha hr ht hi0 h0 (by obtain ⟨n, g1, -, -, g4, -⟩ := th_ald0 hI ha hr; omega) he hdg kk
theorem th_aaldF {nL : Nat} {own : String} (hC : th_C p s m args c cc nL own G) (hI : th_I G Γ H) {a r o t n1 n2 : Nat} {es : Nat → th_sp} {C : String} (ha : Γ a = (r, o)) (hr : th_ro r = some (.inr (t, n1, n2, es))) (ht : (th_ty G.2.1)[t]? = some (G.2.1 t, .object C)) {i : Int32} {b : Int} {r2 : Nat} {hi : Int} (hi0 : i.toInt = b) (h0 : 0 ≤ b) (h1 : b < (n1 : Int)) (he : es b.toNat = (2, (r2 : Int), hi)) (hdg : decode cc pc = .ok (.aaload, 1))
    (kk : ∀ v : Nat, th_sl H a b.toNat = .ref v → Γ v = (r2, 0) → W p l e R s m args below meth c H locs cells slots Q (F0 m (pc + 1) ls (.ref v :: rest))) : W p l e R s m args below meth c H locs cells slots Q (F0 m pc ls (.int i :: .ref a :: rest)) :=
  th_aald hC hI ha hr ht hi0 h0 (by obtain ⟨n, g1, -, -, g4, -⟩ := th_ald0 hI ha hr; omega) he hdg (fun v hv hs => by obtain ⟨b, rfl, h1⟩ := hs; exact kk b hv (by simpa using h1))
theorem th_iastF {nL : Nat} {own : String} (hC : th_C p s m args c cc nL own G) (hB : th_B G Γ Γ0 L H0 H locs) {a r o t n1 n2 : Nat} {es : Nat → th_sp} (ha : Γ a = (r, o)) (ha0 : Γ0 a = (r, o) ∨ th_ro (Γ0 a).1 = none) (hr : th_ro r = some (.inr (t, n1, n2, es))) (ht : (th_ty G.2.1)[t]? = some (G.2.1 t, .int)) (hL : th_in L r 0 = true) {i x : Int32} {b : Int} (hi0 : i.toInt = b) (h0 : 0 ≤ b) (h1 : b < (n1 : Int)) (he : th_sat Γ a (es b.toNat) (.int x)) (hdg : decode cc pc = .ok (.iastore, 1))
    (kk : ∀ (H1 : Heap) (locs1 : List Loc), th_B G Γ Γ0 L H0 H1 locs1 → th_F G Γ [(r, 0)] H H1 → th_St H H1 a b.toNat (.int x) → W p l e R s m args below meth c H1 locs1 cells slots Q (F0 m (pc + 1) ls rest)) : W p l e R s m args below meth c H locs cells slots Q (F0 m pc ls (.int x :: .int i :: .ref a :: rest)) :=
  th_iast hC hB ha ha0 hr ht hL hi0 h0 (by obtain ⟨n, g1, -, -, g4, -⟩ := th_ald0 hB.1 ha hr; omega) he hdg kk
theorem th_lastF {nL : Nat} {own : String} (hC : th_C p s m args c cc nL own G) (hB : th_B G Γ Γ0 L H0 H locs) {a r o t n1 n2 : Nat} {es : Nat → th_sp} (ha : Γ a = (r, o)) (ha0 : Γ0 a = (r, o) ∨ th_ro (Γ0 a).1 = none) (hr : th_ro r = some (.inr (t, n1, n2, es))) (ht : (th_ty G.2.1)[t]? = some (G.2.1 t, .long)) (hL : th_in L r 0 = true) {i : Int32} {x : Int64} {b : Int} (hi0 : i.toInt = b) (h0 : 0 ≤ b) (h1 : b < (n1 : Int)) (he : th_sat Γ a (es b.toNat) (.long x)) (hdg : decode cc pc = .ok (.lastore, 1))
    (kk : ∀ (H1 : Heap) (locs1 : List Loc), th_B G Γ Γ0 L H0 H1 locs1 → th_F G Γ [(r, 0)] H H1 → th_St H H1 a b.toNat (.long x) → W p l e R s m args below meth c H1 locs1 cells slots Q (F0 m (pc + 1) ls rest)) : W p l e R s m args below meth c H locs cells slots Q (F0 m pc ls (.long x :: .int i :: .ref a :: rest)) :=
  th_last hC hB ha ha0 hr ht hL hi0 h0 (by obtain ⟨n, g1, -, -, g4, -⟩ := th_ald0 hB.1 ha hr; omega) he hdg kk
theorem th_zald {nL : Nat} {own : String} (hC : th_C p s m args c cc nL own G) (hI : th_I G Γ H) {a r o t n1 n2 : Nat} {es : Nat → th_sp} (ha : Γ a = (r, o)) (hr : th_ro r = some (.inr (t, n1, n2, es))) (ht : (th_ty G.2.1)[t]? = some (G.2.1 t, .boolean)) {i : Int32} {b lo hi : Int} (hi0 : i.toInt = b) (h0 : 0 ≤ b) (h1 : b < (th_ln H a : Int)) (he : es b.toNat = (0, lo, hi)) (hdg : decode cc pc = .ok (.baload, 1))
    (kk : ∀ x : Int32, th_sl H a b.toNat = .int x → lo ≤ x.toInt → x.toInt ≤ hi → W p l e R s m args below meth c H locs cells slots Q (F0 m (pc + 1) ls (.int x :: rest))) : W p l e R s m args below meth c H locs cells slots Q (F0 m pc ls (.int i :: .ref a :: rest)) := by
  obtain ⟨n, -, -, h3, h4, h5⟩ := th_ald0 hI ha hr
  rw [h4] at h1
  have hb : i.toNatClampNeg = b.toNat := by rw [← hi0]; rfl
  have hlt : b.toNat < n := by omega
  obtain ⟨x, hx, l1, l2⟩ : ∃ x : Int32, th_sl H a b.toNat = .int x ∧ lo ≤ x.toInt ∧ x.toInt ≤ hi := by
    have h6 := h5 _ hlt
    rw [he] at h6
    exact h6
  refine W.zald (v := .int x) hC.1 hC.2.1 h3 (th_tys hC ht n (th_sl H a)) (fun q => by cases q) ?_ ?_ rfl rfl hdg (kk x hx l1 l2)
  · rw [arrV_size, hb]
    exact ti_in (x := i) (n := n) (by omega) (by omega) |> fun z => by rw [← hb]; exact z
  · rw [hb, arrV_read _ _ hlt, hx]
theorem th_zaldF {nL : Nat} {own : String} (hC : th_C p s m args c cc nL own G) (hI : th_I G Γ H) {a r o t n1 n2 : Nat} {es : Nat → th_sp} (ha : Γ a = (r, o)) (hr : th_ro r = some (.inr (t, n1, n2, es))) (ht : (th_ty G.2.1)[t]? = some (G.2.1 t, .boolean)) {i : Int32} {b lo hi : Int} (hi0 : i.toInt = b) (h0 : 0 ≤ b) (h1 : b < (n1 : Int)) (he : es b.toNat = (0, lo, hi)) (hdg : decode cc pc = .ok (.baload, 1))
    (kk : ∀ x : Int32, th_sl H a b.toNat = .int x → lo ≤ x.toInt → x.toInt ≤ hi → W p l e R s m args below meth c H locs cells slots Q (F0 m (pc + 1) ls (.int x :: rest))) : W p l e R s m args below meth c H locs cells slots Q (F0 m pc ls (.int i :: .ref a :: rest)) :=
  th_zald hC hI ha hr ht hi0 h0 (by obtain ⟨n, g1, -, -, g4, -⟩ := th_ald0 hI ha hr; omega) he hdg kk
theorem th_bald {nL : Nat} {own : String} (hC : th_C p s m args c cc nL own G) (hI : th_I G Γ H) {a r o t n1 n2 : Nat} {es : Nat → th_sp} (ha : Γ a = (r, o)) (hr : th_ro r = some (.inr (t, n1, n2, es))) (ht : (th_ty G.2.1)[t]? = some (G.2.1 t, .byte)) {i : Int32} {b lo hi : Int} (hi0 : i.toInt = b) (h0 : 0 ≤ b) (h1 : b < (th_ln H a : Int)) (he : es b.toNat = (0, lo, hi)) (hdg : decode cc pc = .ok (.baload, 1))
    (kk : ∀ x : Int32, th_sl H a b.toNat = .int x → lo ≤ x.toInt → x.toInt ≤ hi → W p l e R s m args below meth c H locs cells slots Q (F0 m (pc + 1) ls (.int x :: rest))) : W p l e R s m args below meth c H locs cells slots Q (F0 m pc ls (.int i :: .ref a :: rest)) := by
  obtain ⟨n, -, -, h3, h4, h5⟩ := th_ald0 hI ha hr
  rw [h4] at h1
  have hb : i.toNatClampNeg = b.toNat := by rw [← hi0]; rfl
  have hlt : b.toNat < n := by omega
  obtain ⟨x, hx, l1, l2⟩ : ∃ x : Int32, th_sl H a b.toNat = .int x ∧ lo ≤ x.toInt ∧ x.toInt ≤ hi := by
    have h6 := h5 _ hlt
    rw [he] at h6
    exact h6
  refine W.bald (v := .int x) hC.1 hC.2.1 h3 (th_tys hC ht n (th_sl H a)) (fun q => by cases q) ?_ ?_ rfl rfl hdg (kk x hx l1 l2)
  · rw [arrV_size, hb]
    exact ti_in (x := i) (n := n) (by omega) (by omega) |> fun z => by rw [← hb]; exact z
  · rw [hb, arrV_read _ _ hlt, hx]
theorem th_baldF {nL : Nat} {own : String} (hC : th_C p s m args c cc nL own G) (hI : th_I G Γ H) {a r o t n1 n2 : Nat} {es : Nat → th_sp} (ha : Γ a = (r, o)) (hr : th_ro r = some (.inr (t, n1, n2, es))) (ht : (th_ty G.2.1)[t]? = some (G.2.1 t, .byte)) {i : Int32} {b lo hi : Int} (hi0 : i.toInt = b) (h0 : 0 ≤ b) (h1 : b < (n1 : Int)) (he : es b.toNat = (0, lo, hi)) (hdg : decode cc pc = .ok (.baload, 1))
    (kk : ∀ x : Int32, th_sl H a b.toNat = .int x → lo ≤ x.toInt → x.toInt ≤ hi → W p l e R s m args below meth c H locs cells slots Q (F0 m (pc + 1) ls (.int x :: rest))) : W p l e R s m args below meth c H locs cells slots Q (F0 m pc ls (.int i :: .ref a :: rest)) :=
  th_bald hC hI ha hr ht hi0 h0 (by obtain ⟨n, g1, -, -, g4, -⟩ := th_ald0 hI ha hr; omega) he hdg kk
theorem th_zast {nL : Nat} {own : String} (hC : th_C p s m args c cc nL own G) (hB : th_B G Γ Γ0 L H0 H locs) {a r o t n1 n2 : Nat} {es : Nat → th_sp} (ha : Γ a = (r, o)) (ha0 : Γ0 a = (r, o) ∨ th_ro (Γ0 a).1 = none) (hr : th_ro r = some (.inr (t, n1, n2, es))) (ht : (th_ty G.2.1)[t]? = some (G.2.1 t, .boolean)) (hL : th_in L r 0 = true) {i x : Int32} {b : Int} (hi0 : i.toInt = b) (h0 : 0 ≤ b) (h1 : b < (th_ln H a : Int)) (he : th_sat Γ a (es b.toNat) (.int x)) (hx0 : narrow .boolean (.int x) = .int x) (hdg : decode cc pc = .ok (.bastore, 1))
    (kk : ∀ (H1 : Heap) (locs1 : List Loc), th_B G Γ Γ0 L H0 H1 locs1 → th_F G Γ [(r, 0)] H H1 → th_St H H1 a b.toNat (.int x) → W p l e R s m args below meth c H1 locs1 cells slots Q (F0 m (pc + 1) ls rest)) : W p l e R s m args below meth c H locs cells slots Q (F0 m pc ls (.int x :: .int i :: .ref a :: rest)) := by
  obtain ⟨hI, hS0, hF⟩ := hB
  obtain ⟨n, -, -, h3, h4, h5⟩ := th_ald0 hI ha hr
  rw [h4] at h1
  have hsz := (hI a r o _ ha hr).1
  have hb : i.toNatClampNeg = b.toNat := by rw [← hi0]; rfl
  have hlt : b.toNat < n := by omega
  refine W.zast hC.1 hC.2.1 h3 (th_tys hC ht n (th_sl H a)) (fun q => by cases q) ?_ rfl rfl hdg fun H1 e1 z oq => ?_
  · rw [arrV_size, hb]
    exact ti_in (x := i) (n := n) (by omega) (by omega) |> fun z => by rw [← hb]; exact z
  · rw [hb, hx0] at e1
    rw [hb]
    have hst := th_St_of h3 (by rw [arrV_size]; exact hlt) e1 z oq
    refine kk H1 _ ⟨th_I_sto hI ha hr h3 hlt e1 oq he, hS0.put z oq hsz, ?_⟩ (th_F_sto th_F_rf ha hr hst (by simp [th_in])) hst
    rcases ha0 with ha0 | ha0
    · exact th_F_sto hF ha0 hr hst hL
    · exact th_F_new hF ha0 hst
theorem th_zastF {nL : Nat} {own : String} (hC : th_C p s m args c cc nL own G) (hB : th_B G Γ Γ0 L H0 H locs) {a r o t n1 n2 : Nat} {es : Nat → th_sp} (ha : Γ a = (r, o)) (ha0 : Γ0 a = (r, o) ∨ th_ro (Γ0 a).1 = none) (hr : th_ro r = some (.inr (t, n1, n2, es))) (ht : (th_ty G.2.1)[t]? = some (G.2.1 t, .boolean)) (hL : th_in L r 0 = true) {i x : Int32} {b : Int} (hi0 : i.toInt = b) (h0 : 0 ≤ b) (h1 : b < (n1 : Int)) (he : th_sat Γ a (es b.toNat) (.int x)) (hx0 : narrow .boolean (.int x) = .int x) (hdg : decode cc pc = .ok (.bastore, 1))
    (kk : ∀ (H1 : Heap) (locs1 : List Loc), th_B G Γ Γ0 L H0 H1 locs1 → th_F G Γ [(r, 0)] H H1 → th_St H H1 a b.toNat (.int x) → W p l e R s m args below meth c H1 locs1 cells slots Q (F0 m (pc + 1) ls rest)) : W p l e R s m args below meth c H locs cells slots Q (F0 m pc ls (.int x :: .int i :: .ref a :: rest)) :=
  th_zast hC hB ha ha0 hr ht hL hi0 h0 (by obtain ⟨n, g1, -, -, g4, -⟩ := th_ald0 hB.1 ha hr; omega) he hx0 hdg kk
theorem th_bast {nL : Nat} {own : String} (hC : th_C p s m args c cc nL own G) (hB : th_B G Γ Γ0 L H0 H locs) {a r o t n1 n2 : Nat} {es : Nat → th_sp} (ha : Γ a = (r, o)) (ha0 : Γ0 a = (r, o) ∨ th_ro (Γ0 a).1 = none) (hr : th_ro r = some (.inr (t, n1, n2, es))) (ht : (th_ty G.2.1)[t]? = some (G.2.1 t, .byte)) (hL : th_in L r 0 = true) {i x y : Int32} {b : Int} (hi0 : i.toInt = b) (h0 : 0 ≤ b) (h1 : b < (th_ln H a : Int)) (he : th_sat Γ a (es b.toNat) (.int y)) (hx0 : narrow .byte (.int x) = .int y) (hdg : decode cc pc = .ok (.bastore, 1))
    (kk : ∀ (H1 : Heap) (locs1 : List Loc), th_B G Γ Γ0 L H0 H1 locs1 → th_F G Γ [(r, 0)] H H1 → th_St H H1 a b.toNat (.int y) → W p l e R s m args below meth c H1 locs1 cells slots Q (F0 m (pc + 1) ls rest)) : W p l e R s m args below meth c H locs cells slots Q (F0 m pc ls (.int x :: .int i :: .ref a :: rest)) := by
  obtain ⟨hI, hS0, hF⟩ := hB
  obtain ⟨n, -, -, h3, h4, h5⟩ := th_ald0 hI ha hr
  rw [h4] at h1
  have hsz := (hI a r o _ ha hr).1
  have hb : i.toNatClampNeg = b.toNat := by rw [← hi0]; rfl
  have hlt : b.toNat < n := by omega
  refine W.bast hC.1 hC.2.1 h3 (th_tys hC ht n (th_sl H a)) (fun q => by cases q) ?_ rfl rfl hdg fun H1 e1 z oq => ?_
  · rw [arrV_size, hb]
    exact ti_in (x := i) (n := n) (by omega) (by omega) |> fun z => by rw [← hb]; exact z
  · rw [hb, hx0] at e1
    rw [hb]
    have hst := th_St_of h3 (by rw [arrV_size]; exact hlt) e1 z oq
    refine kk H1 _ ⟨th_I_sto hI ha hr h3 hlt e1 oq he, hS0.put z oq hsz, ?_⟩ (th_F_sto th_F_rf ha hr hst (by simp [th_in])) hst
    rcases ha0 with ha0 | ha0
    · exact th_F_sto hF ha0 hr hst hL
    · exact th_F_new hF ha0 hst
theorem th_bastF {nL : Nat} {own : String} (hC : th_C p s m args c cc nL own G) (hB : th_B G Γ Γ0 L H0 H locs) {a r o t n1 n2 : Nat} {es : Nat → th_sp} (ha : Γ a = (r, o)) (ha0 : Γ0 a = (r, o) ∨ th_ro (Γ0 a).1 = none) (hr : th_ro r = some (.inr (t, n1, n2, es))) (ht : (th_ty G.2.1)[t]? = some (G.2.1 t, .byte)) (hL : th_in L r 0 = true) {i x y : Int32} {b : Int} (hi0 : i.toInt = b) (h0 : 0 ≤ b) (h1 : b < (n1 : Int)) (he : th_sat Γ a (es b.toNat) (.int y)) (hx0 : narrow .byte (.int x) = .int y) (hdg : decode cc pc = .ok (.bastore, 1))
    (kk : ∀ (H1 : Heap) (locs1 : List Loc), th_B G Γ Γ0 L H0 H1 locs1 → th_F G Γ [(r, 0)] H H1 → th_St H H1 a b.toNat (.int y) → W p l e R s m args below meth c H1 locs1 cells slots Q (F0 m (pc + 1) ls rest)) : W p l e R s m args below meth c H locs cells slots Q (F0 m pc ls (.int x :: .int i :: .ref a :: rest)) :=
  th_bast hC hB ha ha0 hr ht hL hi0 h0 (by obtain ⟨n, g1, -, -, g4, -⟩ := th_ald0 hB.1 ha hr; omega) he hx0 hdg kk
theorem ti_byte (x : Int32) : -128 ≤ (x.toInt8.toInt32).toInt ∧ (x.toInt8.toInt32).toInt ≤ 127 := by
  have h1 := Int8.le_toInt x.toInt8
  have h2 := Int8.toInt_lt x.toInt8
  have h3 : (x.toInt8.toInt32).toInt = x.toInt8.toInt := Int8.toInt_toInt32 _
  omega
theorem th_sI {a : Nat} {lo hi : Int} {x : Int32} (h1 : lo ≤ x.toInt) (h2 : x.toInt ≤ hi) : th_sat Γ a (0, lo, hi) (.int x) := ⟨x, rfl, h1, h2⟩
theorem th_sIa {a : Nat} {x : Int32} : th_sat Γ a (0, (-2147483648), 2147483647) (.int x) := ⟨x, rfl, ti_lo x, ti_hi x⟩
theorem th_sLa {a : Nat} {x : Int64} : th_sat Γ a (1, (-9223372036854775808), 9223372036854775807) (.long x) := ⟨x, rfl, by have := Int64.le_toInt x; show (-9223372036854775808 : Int) ≤ x.toInt; omega, by have := Int64.toInt_lt x; show x.toInt ≤ (9223372036854775807 : Int); omega⟩
theorem th_sR {a b r : Nat} {hi : Int} (h : Γ b = (r, 0)) : th_sat Γ a (2, (r : Int), hi) (.ref b) := ⟨b, rfl, by simpa using h⟩
theorem th_sQ {a b r : Nat} {hi : Int} (h : Γ b = (r, 0)) : th_sat Γ a (3, (r : Int), hi) (.ref b) := Or.inr ⟨b, rfl, by simpa using h⟩
theorem th_sN {a r : Nat} {hi : Int} : th_sat Γ a (3, (r : Int), hi) .null := Or.inl rfl
theorem th_sV {a r : Nat} {hi : Int} {v : Value} (h : v = .null ∨ ∃ b : Nat, v = .ref b ∧ Γ b = (r, 0)) : th_sat Γ a (3, (r : Int), hi) v := by
  rcases h with h | ⟨b, h1, h2⟩
  · exact Or.inl h
  · exact Or.inr ⟨b, h1, by simpa using h2⟩
theorem th_sO {a b r : Nat} {hi : Int} (h : Γ b = (r, a)) : th_sat Γ a (4, (r : Int), hi) (.ref b) := ⟨b, rfl, by simpa using h⟩
theorem th_s5 {a : Nat} {v : Value} {lo hi : Int} : th_sat Γ a (5, lo, hi) v := trivial
theorem th_nb {x : Int32} (h1 : 0 ≤ x.toInt) (h2 : x.toInt ≤ 1) : narrow .boolean (.int x) = .int x := by
  rcases (show x.toInt = 0 ∨ x.toInt = 1 by omega) with h | h
  · have e : x = 0 := Int32.toInt_inj.mp (by rw [h]; rfl)
    subst e; rfl
  · have e : x = 1 := Int32.toInt_inj.mp (by rw [h]; rfl)
    subst e; rfl
/-- a method's start and end: its arguments, the heap; its answer and the heap behind it, nothing outside the system changed -/
def th_P (av : List Value) (G : th_G) (H : Heap) : Array Value → State → Prop := va_Pc av (fun U => U.heap = H ∧ th_K G U)
def th_Q (post : Option Value → Heap → Prop) (G : th_G) : Array Value → State → Outcome → State → Prop := fun _ st oc t => (∃ v : Option Value, oc = .returned v ∧ post v t.heap) ∧ va_F (fun q => G.2.2 ≤ q) st t
theorem th_blind {av : List Value} : FrameBlind (th_P av G H) := fun a U g mk q => ⟨q.1, q.2.1, th_K_moved (u := U) (U := U.calling g mk a) (Vm.Alike.refl U.vm) q.2.2⟩
theorem th_met {y : MethodName} {code' : ByteArray} {maxL : Nat} {ret' : Option FieldType} {rm : Room} {av : List Value} {post : Option Value → Heap → Prop} {mc ms : Nat} (own : String) (hy : plainName y.cls = true) (hown : y.cls = own) (hlen : (lg_sl av).length ≤ maxL)
    (body : ∀ (p : Program) (e : Env) (s : State) (m : MethodId) (below : List Frame) (meth : Method) (c : Code), th_C p s m av.toArray c code' maxL own G → s.heap = H → meth.sig.returnType = ret' → meth.locks = false → meth.name = y.name → ∀ ls : Array Slot, lv_has ls maxL (lv_args 0 av) →
      W p l e rm s m av.toArray below meth c H [] 0 0 (MQ below (th_Q post G) av.toArray s mc ms (fun q => G.2.2 ≤ q)) (F0 m 0 ls [])) : Met l y (.code y code' maxL ret' :: th_tb) rm (th_P av G H) (th_Q post G) mc ms (fun q => G.2.2 ≤ q) := by
  refine Met.ofW (cc := code') (maxL := maxL) (ret := ret') hy rfl ?_
  intro p e s m args below meth c s₁ B hml hv
  obtain ⟨rfl, hH, hK⟩ := hv
  have hts := atoms_spec (ws := .code y code' maxL ret' :: th_tb) B.pre
  have hl := lv_entry av (n := maxL) hlen
  rw [lg_entry_eq]
  generalize (lg_sl av ++ List.replicate (maxL - (lg_sl av).length) Slot.unset).toArray = ls at hl ⊢
  have hw := body p e s m below meth c ⟨B.exec, B.bytes, hml, hown ▸ findClass_of_methodNamed B.named, fun w hw => hts w (List.mem_cons_of_mem _ hw), hK⟩ hH B.returns B.notSynchronized (name_of_methodNamed B.named B.method).1 ls hl
  rw [← hH] at hw
  exact hw
/-- what the tables say of a method -/
def th_MF (y : MethodName) (bytes : ByteArray) (maxL : Nat) (ret' : Option FieldType) (n : Nat) : Prop := Cond.code y bytes maxL ret' ∈ th_tb ∧ Cond.initialized y.cls ∈ th_tb ∧ (y.cls ≠ "java/lang/invoke/MethodHandle" ∧ y.cls ≠ "java/lang/invoke/VarHandle" ∧ (parseMethodDescriptor y.desc).map (fun d => d.parameters.length) = some n)
theorem th_good {w0 : Cond} (h : w0 ∈ th_tb) : GoodIn th_tb (w0 :: th_tb) := fun w hw => by
  have hm : w ∈ th_tb := (List.mem_cons.mp hw).elim (fun e => e ▸ h) id
  exact ⟨hm, good_of_word (List.mem_filter.mp hm).2⟩
theorem th_cb {nL : Nat} {own : String} (hC : th_C p s m args c cc nL own G) {y : MethodName} {bytes : ByteArray} {maxL n index : Nat} {ret' : Option FieldType} {rm : Room} {mc ms : Nat} (hF : th_MF y bytes maxL ret' n) (hlk : Cond.methodLink own index y ∈ th_tb) (hrc : rm.cells = mc) (hrs : rm.slots = ms) (hR : rm.frames + 1 ≤ R.frames ∧ 8 + (maxL + 11) + rm.locals ≤ R.locals) :
    CallB R s args own index y bytes maxL ret' (.code y bytes maxL ret' :: th_tb) rm mc ms n :=
  callB_of n hC.2.2.2.2.1 (th_good hF.1) rfl hrc hrs (hC.2.2.2.2.1 _ hF.2.1) (hC.2.2.2.2.1 _ hlk) hF.2.2 hR
theorem th_runS {nL : Nat} {own : String} (hC : th_C p s m args c cc nL own G) {y : MethodName} {bytes : ByteArray} {maxL n index mc ms : Nat} {ret' : Option FieldType} {rm : Room} {post : Option Value → Heap → Prop} {As : List Value} (hF : th_MF y bytes maxL ret' n) (hlk : Cond.methodLink own index y ∈ th_tb) (hst : Cond.static y ∈ th_tb)
    (hM : Met l y (.code y bytes maxL ret' :: th_tb) rm (th_P As G H) (th_Q post G) mc ms (fun q => G.2.2 ≤ q)) (hrc : rm.cells = mc) (hrs : rm.slots = ms) (hR : rm.frames + 1 ≤ R.frames ∧ 8 + (maxL + 11) + rm.locals ≤ R.locals)
    {st0 : List Value} (hn : As.length = n) (hsize : ls.size = nL) (hstack : st0 = As.reverse ++ rest) (hW : (rest.map fun v => v.category).sum ≤ 8) (hdg : decode cc pc = .ok (.invokestatic index, 3)) (hf : cells + mc ≤ R.cells ∧ slots + ms ≤ R.slots) :
    va_Run p l e R s m args below meth c H locs cells slots mc ms (F0 m pc ls st0) rest (th_Q post G As.toArray) (fun q => G.2.2 ≤ q) :=
  va_runS (nL := nL) (Ts := th_tb) ⟨hC.1, hC.2.1, hC.2.2.1, hC.2.2.2.1, hC.2.2.2.2.1⟩ hM ⟨th_cb hC hF hlk hrc hrs hR, hC.2.2.2.2.1 _ hst⟩ ⟨th_blind, fun U hU hW => ⟨rfl, hU, th_K_moved hW.alike hC.2.2.2.2.2⟩⟩ rfl hn hsize hstack (lv_room hW) hdg hf
theorem th_runV {nL : Nat} {own : String} (hC : th_C p s m args c cc nL own G) {y : MethodName} {bytes : ByteArray} {maxL n index mc ms : Nat} {ret' : Option FieldType} {rm : Room} {post : Option Value → Heap → Prop} {As : List Value} {b : Nat} (hF : th_MF y bytes maxL ret' n) (hlk : Cond.methodLink own index y ∈ th_tb) (hin : Cond.instanceMethod y ∈ th_tb) (hse : Cond.selects y.cls y y ∈ th_tb)
    (hM : Met l y (.code y bytes maxL ret' :: th_tb) rm (th_P (.ref b :: As) G H) (th_Q post G) mc ms (fun q => G.2.2 ≤ q)) (hrc : rm.cells = mc) (hrs : rm.slots = ms) (hR : rm.frames + 1 ≤ R.frames ∧ 8 + (maxL + 11) + rm.locals ≤ R.locals)
    {T : u_T} {N k r o : Nat} {fs : List th_sp} (hI : th_I G Γ H) (ha : Γ b = (r, o)) (hr : th_ro r = some (.inl (k, fs))) (hc : th_cl[k]? = some (y.cls, T, N))
    {st0 : List Value} (hn : As.length = n) (hsize : ls.size = nL) (hstack : st0 = As.reverse ++ .ref b :: rest) (hW : (rest.map fun v => v.category).sum ≤ 8) (hdg : decode cc pc = .ok (.invokevirtual index, 3)) (hf : cells + mc ≤ R.cells ∧ slots + ms ≤ R.slots) :
    va_Run p l e R s m args below meth c H locs cells slots mc ms (F0 m pc ls st0) rest (th_Q post G (Value.ref b :: As).toArray) (fun q => G.2.2 ≤ q) := by
  obtain ⟨-, ⟨cell, q1, q2, q3, -⟩, -⟩ := hI b r o _ ha hr
  exact va_runV (nL := nL) (Ts := th_tb) (C := y.cls) ⟨hC.1, hC.2.1, hC.2.2.1, hC.2.2.2.1, hC.2.2.2.2.1⟩ hM ⟨th_cb hC hF hlk hrc hrs hR, hC.2.2.2.2.1 _ hin, hC.2.2.2.2.1 _ hse⟩ ⟨th_blind, ⟨cell, q1, by rw [q3]; rfl, by rw [q2]; exact (hC.2.2.2.2.2.1.1 k _ hc).2.1⟩, fun U hU hW => ⟨rfl, hU, th_K_moved hW.alike hC.2.2.2.2.2⟩⟩ rfl hn hsize hstack (lv_room hW) hdg hf
theorem th_runI {nL : Nat} {own : String} (hC : th_C p s m args c cc nL own G) {y : MethodName} {bytes : ByteArray} {maxL n index mc ms : Nat} {rm : Room} {post : Option Value → Heap → Prop} {As : List Value} {b : Nat} (hF : th_MF y bytes maxL none n) (hlk : Cond.methodLink own index y ∈ th_tb) (hin : Cond.instanceMethod y ∈ th_tb) (hy1 : y.name = "<init>")
    (hM : Met l y (.code y bytes maxL none :: th_tb) rm (th_P (.ref b :: As) G H) (th_Q post G) mc ms (fun q => G.2.2 ≤ q)) (hrc : rm.cells = mc) (hrs : rm.slots = ms) (hR : rm.frames + 1 ≤ R.frames ∧ 8 + (maxL + 11) + rm.locals ≤ R.locals)
    {st0 : List Value} (hn : As.length = n) (hsize : ls.size = nL) (hstack : st0 = As.reverse ++ .ref b :: rest) (hW : (rest.map fun v => v.category).sum ≤ 8) (hdg : decode cc pc = .ok (.invokespecial index, 3)) (hf : cells + mc ≤ R.cells ∧ slots + ms ≤ R.slots) :
    va_Run p l e R s m args below meth c H locs cells slots mc ms (F0 m pc ls st0) rest (th_Q post G (Value.ref b :: As).toArray) (fun q => G.2.2 ≤ q) :=
  va_runI (nL := nL) (Ts := th_tb) ⟨hC.1, hC.2.1, hC.2.2.1, hC.2.2.2.1, hC.2.2.2.2.1⟩ hM ⟨th_cb hC hF hlk hrc hrs hR, hy1, hC.2.2.2.2.1 _ hin⟩ ⟨th_blind, fun U hU hW => ⟨rfl, hU, th_K_moved hW.alike hC.2.2.2.2.2⟩⟩ rfl hn hsize hstack (lv_room hW) hdg hf
theorem th_call {post : Option Value → Heap → Prop} {a : Array Value} {mc ms : Nat} {st0 : List Value} (hr : va_Run p l e R s m args below meth c H locs cells slots mc ms (F0 m pc ls st0) rest (th_Q post G a) (fun q => G.2.2 ≤ q)) (hS : va_S (fun q => G.2.2 ≤ q) H0 H locs)
    (kk : ∀ (v : Option Value) (H1 : Heap) (locs1 : List Loc), post v H1 → H.size ≤ H1.size → va_S (fun q => G.2.2 ≤ q) H0 H1 locs1 → W p l e R s m args below meth c H1 locs1 (cells + mc) (slots + ms) Q (F0 m (pc + 3) ls (v.toList ++ rest))) : W p l e R s m args below meth c H locs cells slots Q (F0 m pc ls st0) := by
  intro T hT X
  obtain ⟨v, st₀, t, T', L, h0, X', hL, e1, e2, ⟨⟨v', hv, hp⟩, hz, hk⟩, st⟩ := hr T hT X
  cases hv
  rw [h0] at hz hk
  obtain ⟨t2, a1, b1⟩ := kk v T'.heap (locs ++ L) (by rw [e1]; exact hp) (by rw [e1]; exact hz)
    ⟨Nat.le_trans hS.1 (by rw [e1]; exact hz), fun q h1 h2 => by rw [e1, hk q (Nat.lt_of_lt_of_le h1 hS.1) h2]; exact hS.2.1 q h1 h2, fun q hq => by
      rcases List.mem_append.mp hq with h | h
      · exact hS.2.2 q h
      · exact hL q h⟩ T' rfl X'
  exact ⟨t2, st t2 a1, b1⟩
theorem th_iret {nL : Nat} {own : String} (hC : th_C p s m args c cc nL own G) {post : Option Value → Heap → Prop} {v : Int32} {ty : FieldType} (hH : s.heap = H0) (hr : meth.sig.returnType = some ty) (hlocks : meth.locks = false) (hn : narrow ty (.int v) = .int v) (hS : va_S (fun q => G.2.2 ≤ q) H0 H locs) (hp : post (some (.int v)) H) (hdg : decode cc pc = .ok (.ireturn, 1)) :
    W p l e R s m args below meth c H locs cells slots (MQ below (th_Q post G) args s cells slots (fun q => G.2.2 ≤ q)) (F0 m pc ls [.int v]) :=
  W.zret hC.1 hC.2.1 hr hn (fun t ht _ => ⟨⟨_, rfl, by rw [ht]; exact hp⟩, by subst hH; exact hS.F ht⟩) hS.2.2 hdg hlocks
theorem th_vret {nL : Nat} {own : String} (hC : th_C p s m args c cc nL own G) {post : Option Value → Heap → Prop} (hH : s.heap = H0) (hr : meth.sig.returnType = none) (hlocks : meth.locks = false) (hS : va_S (fun q => G.2.2 ≤ q) H0 H locs) (hp : post none H) (hdg : decode cc pc = .ok (.return_, 1)) :
    W p l e R s m args below meth c H locs cells slots (MQ below (th_Q post G) args s cells slots (fun q => G.2.2 ≤ q)) (F0 m pc ls []) :=
  W.vret hC.1 hC.2.1 hr (fun t ht _ => ⟨⟨_, rfl, by rw [ht]; exact hp⟩, by subst hH; exact hS.F ht⟩) hS.2.2 hdg hlocks
theorem th_lret {nL : Nat} {own : String} (hC : th_C p s m args c cc nL own G) {post : Option Value → Heap → Prop} {v : Int64} (hH : s.heap = H0) (hr : meth.sig.returnType = some .long) (hlocks : meth.locks = false) (hS : va_S (fun q => G.2.2 ≤ q) H0 H locs) (hp : post (some (.long v)) H) (hdg : decode cc pc = .ok (.lreturn, 1)) :
    W p l e R s m args below meth c H locs cells slots (MQ below (th_Q post G) args s cells slots (fun q => G.2.2 ≤ q)) (F0 m pc ls [.long v]) :=
  W.lret hC.1 hC.2.1 hr (fun t ht _ => ⟨⟨_, rfl, by rw [ht]; exact hp⟩, by subst hH; exact hS.F ht⟩) hS.2.2 hdg hlocks
theorem th_aret {nL : Nat} {own : String} (hC : th_C p s m args c cc nL own G) {post : Option Value → Heap → Prop} {v : Value} {rt : FieldType} (hH : s.heap = H0) (hr : meth.sig.returnType = some rt) (hrt : (∃ n, rt = .object n) ∨ ∃ t, rt = .array t) (hv : v = .null ∨ ∃ a, v = .ref a) (hlocks : meth.locks = false) (hS : va_S (fun q => G.2.2 ≤ q) H0 H locs) (hp : post (some v) H) (hdg : decode cc pc = .ok (.areturn, 1)) :
    W p l e R s m args below meth c H locs cells slots (MQ below (th_Q post G) args s cells slots (fun q => G.2.2 ≤ q)) (F0 m pc ls [v]) :=
  W.aret hC.1 hC.2.1 hr hrt hv (fun t ht _ => ⟨⟨_, rfl, by rw [ht]; exact hp⟩, by subst hH; exact hS.F ht⟩) hS.2.2 hdg hlocks
end THR
