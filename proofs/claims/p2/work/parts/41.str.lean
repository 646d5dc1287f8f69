section TSTR
variable {p : Program} {l : Launch} {e : Env} {R : Room} {s : State} {m : MethodId} {args : Array Value} {below : List Frame} {meth : Method} {c : Code} {H H0 : Heap} {locs : List Loc} {cells slots : Nat} {Q : State → Prop}
variable {cc : ByteArray} {pc : Nat} {ls : Array Slot} {rest : List Value} {G : th_G} {Γ Γ0 : th_Ga} {L : List (Nat × Nat)}
/-- what a predicate of the state must bear: another frame, warmer tables -/
def th_MV (X : State → Prop) : Prop := (∀ u U : State, U.vm = u.vm → X u → X U) ∧ (∀ u U : State, u.WarmedH U.vm → X u → X U)
def th_PX (av : List Value) (G : th_G) (H : Heap) (X : State → Prop) : Array Value → State → Prop := va_Pc av (fun U => U.heap = H ∧ th_K G U ∧ X U)
theorem th_blindX {av : List Value} {X : State → Prop} (hm : th_MV X) : FrameBlind (th_PX av G H X) := fun a U g mk q => ⟨q.1, q.2.1, th_K_moved (u := U) (U := U.calling g mk a) (Vm.Alike.refl U.vm) q.2.2.1, hm.1 U (U.calling g mk a) rfl q.2.2.2⟩
theorem th_metX {y : MethodName} {code' : ByteArray} {maxL : Nat} {ret' : Option FieldType} {rm : Room} {av : List Value} {post : Option Value → Heap → Prop} {mc ms : Nat} {X : State → Prop} (own : String) (hy : plainName y.cls = true) (hown : y.cls = own) (hlen : (lg_sl av).length ≤ maxL)
    (body : ∀ (p : Program) (e : Env) (s : State) (m : MethodId) (below : List Frame) (meth : Method) (c : Code), th_C p s m av.toArray c code' maxL own G → X s → s.heap = H → meth.sig.returnType = ret' → meth.locks = false → meth.name = y.name → ∀ ls : Array Slot, lv_has ls maxL (lv_args 0 av) →
      W p l e rm s m av.toArray below meth c H [] 0 0 (MQ below (th_Q post G) av.toArray s mc ms (fun q => G.2.2 ≤ q)) (F0 m 0 ls [])) : Met l y (.code y code' maxL ret' :: th_tb) rm (th_PX av G H X) (th_Q post G) mc ms (fun q => G.2.2 ≤ q) := by
  refine Met.ofW (cc := code') (maxL := maxL) (ret := ret') hy rfl ?_
  intro p e s m args below meth c s₁ B hml hv
  obtain ⟨rfl, hH, hK, hX⟩ := hv
  have hts := atoms_spec (ws := .code y code' maxL ret' :: th_tb) B.pre
  have hl := lv_entry av (n := maxL) hlen
  rw [lg_entry_eq]
  generalize (lg_sl av ++ List.replicate (maxL - (lg_sl av).length) Slot.unset).toArray = ls at hl ⊢
  have hw := body p e s m below meth c ⟨B.exec, B.bytes, hml, hown ▸ findClass_of_methodNamed B.named, fun w hw => hts w (List.mem_cons_of_mem _ hw), hK⟩ hX hH B.returns B.notSynchronized (name_of_methodNamed B.named B.method).1 ls hl
  rw [← hH] at hw
  exact hw
theorem th_runSX {nL : Nat} {own : String} {X : State → Prop} (hm : th_MV X) (hX : X s) (hC : th_C p s m args c cc nL own G) {y : MethodName} {bytes : ByteArray} {maxL n index mc ms : Nat} {ret' : Option FieldType} {rm : Room} {post : Option Value → Heap → Prop} {As : List Value} (hF : th_MF y bytes maxL ret' n) (hlk : Cond.methodLink own index y ∈ th_tb) (hst : Cond.static y ∈ th_tb)
    (hM : Met l y (.code y bytes maxL ret' :: th_tb) rm (th_PX As G H X) (th_Q post G) mc ms (fun q => G.2.2 ≤ q)) (hrc : rm.cells = mc) (hrs : rm.slots = ms) (hR : rm.frames + 1 ≤ R.frames ∧ 8 + (maxL + 11) + rm.locals ≤ R.locals)
    {st0 : List Value} (hn : As.length = n) (hsize : ls.size = nL) (hstack : st0 = As.reverse ++ rest) (hW : (rest.map fun v => v.category).sum ≤ 8) (hdg : decode cc pc = .ok (.invokestatic index, 3)) (hf : cells + mc ≤ R.cells ∧ slots + ms ≤ R.slots) :
    va_Run p l e R s m args below meth c H locs cells slots mc ms (F0 m pc ls st0) rest (th_Q post G As.toArray) (fun q => G.2.2 ≤ q) :=
  va_runS (nL := nL) (Ts := th_tb) ⟨hC.1, hC.2.1, hC.2.2.1, hC.2.2.2.1, hC.2.2.2.2.1⟩ hM ⟨th_cb hC hF hlk hrc hrs hR, hC.2.2.2.2.1 _ hst⟩ ⟨th_blindX hm, fun U hU hW => ⟨rfl, hU, th_K_moved hW.alike hC.2.2.2.2.2, hm.2 s U hW hX⟩⟩ rfl hn hsize hstack (lv_room hW) hdg hf
theorem th_runVX {nL : Nat} {own : String} {X : State → Prop} (hm : th_MV X) (hX : X s) (hC : th_C p s m args c cc nL own G) {y : MethodName} {bytes : ByteArray} {maxL n index mc ms : Nat} {ret' : Option FieldType} {rm : Room} {post : Option Value → Heap → Prop} {As : List Value} {b : Nat} (hF : th_MF y bytes maxL ret' n) (hlk : Cond.methodLink own index y ∈ th_tb) (hin : Cond.instanceMethod y ∈ th_tb) (hse : Cond.selects y.cls y y ∈ th_tb)
    (hM : Met l y (.code y bytes maxL ret' :: th_tb) rm (th_PX (.ref b :: As) G H X) (th_Q post G) mc ms (fun q => G.2.2 ≤ q)) (hrc : rm.cells = mc) (hrs : rm.slots = ms) (hR : rm.frames + 1 ≤ R.frames ∧ 8 + (maxL + 11) + rm.locals ≤ R.locals)
    {T : u_T} {N k r o : Nat} {fs : List th_sp} (hI : th_I G Γ H) (ha : Γ b = (r, o)) (hr : th_ro r = some (.inl (k, fs))) (hc : th_cl[k]? = some (y.cls, T, N))
    {st0 : List Value} (hn : As.length = n) (hsize : ls.size = nL) (hstack : st0 = As.reverse ++ .ref b :: rest) (hW : (rest.map fun v => v.category).sum ≤ 8) (hdg : decode cc pc = .ok (.invokevirtual index, 3)) (hf : cells + mc ≤ R.cells ∧ slots + ms ≤ R.slots) :
    va_Run p l e R s m args below meth c H locs cells slots mc ms (F0 m pc ls st0) rest (th_Q post G (Value.ref b :: As).toArray) (fun q => G.2.2 ≤ q) := by
  obtain ⟨-, ⟨cell, q1, q2, q3, -⟩, -⟩ := hI b r o _ ha hr
  exact va_runV (nL := nL) (Ts := th_tb) (C := y.cls) ⟨hC.1, hC.2.1, hC.2.2.1, hC.2.2.2.1, hC.2.2.2.2.1⟩ hM ⟨th_cb hC hF hlk hrc hrs hR, hC.2.2.2.2.1 _ hin, hC.2.2.2.2.1 _ hse⟩ ⟨th_blindX hm, ⟨cell, q1, by rw [q3]; rfl, by rw [q2]; exact (hC.2.2.2.2.2.1.1 k _ hc).2.1⟩, fun U hU hW => ⟨rfl, hU, th_K_moved hW.alike hC.2.2.2.2.2, hm.2 s U hW hX⟩⟩ rfl hn hsize hstack (lv_room hW) hdg hf
/-- the statics that String's methods read -/
def th_Zc (G : th_G) (U : State) (H : Heap) : Prop := va_Z "java/lang/String" "COMPACT_STRINGS" "Z" (.int 1) (fun q => G.2.2 ≤ q) U H ∧ ∃ w : Value, (w = .null ∨ ∃ a : Nat, w = .ref a) ∧ va_Z "jdk/internal/util/Preconditions" "SIOOBE_FORMATTER" "Ljava/util/function/BiFunction;" w (fun q => G.2.2 ≤ q) U H
/-- a String of n bytes, outside the system -/
def th_Zq (G : th_G) (q : Nat) (n : List Int32) (U : State) (H : Heap) : Prop := n.length < 8 ∧ ∃ v : Nat, va_O "java/lang/String" q (fun q => G.2.2 ≤ q) U H ∧ va_OF "java/lang/String" "coder" "B" (.int 0) q (fun q => G.2.2 ≤ q) U H ∧ va_OF "java/lang/String" "value" "[B" (.ref v) q (fun q => G.2.2 ≤ q) U H ∧ va_T .byte v n.length (fun j => .int (n.getD j 0)) (fun q => G.2.2 ≤ q) U H
theorem th_Zc_m {u U : State} (hvm : u.vm.Alike U.vm) (h : th_Zc G u H) : th_Zc G U H := ⟨va_Z.moved hvm h.1, by obtain ⟨w, h1, h2⟩ := h.2; exact ⟨w, h1, va_Z.moved hvm h2⟩⟩
theorem th_Zq_m {u U : State} {q : Nat} {n : List Int32} (hvm : u.vm.Alike U.vm) (h : th_Zq G q n u H) : th_Zq G q n U H := by
  obtain ⟨h0, v, h1, h2, h3, h4⟩ := h
  exact ⟨h0, v, va_O.moved hvm h1, va_OF.moved hvm h2, va_OF.moved hvm h3, va_T.moved hvm h4⟩
theorem th_Zc_k {U : State} {H1 : Heap} (h : th_Zc G U H) (hS : va_S (fun q => G.2.2 ≤ q) H H1 locs) : th_Zc G U H1 := by
  obtain ⟨h1, w, h2, h3⟩ := h
  exact ⟨h1.kept hS.2.1, w, h2, h3.kept hS.2.1⟩
theorem th_Zq_k {U : State} {H1 : Heap} {q : Nat} {n : List Int32} (h : th_Zq G q n U H) (hS : va_S (fun q => G.2.2 ≤ q) H H1 locs) : th_Zq G q n U H1 := by
  obtain ⟨h0, v, h1, h2, h3, h4⟩ := h
  exact ⟨h0, v, h1.kept hS.2.1, h2.kept hS.2.1, h3.kept hS.2.1, h4.kept hS.2.1⟩
theorem th_alike {u U : State} (e : U.vm = u.vm) : u.vm.Alike U.vm := by rw [e]; exact Vm.Alike.refl _
theorem th_mvc : th_MV (fun U => th_Zc G U H) := ⟨fun _ _ e h => th_Zc_m (th_alike e) h, fun _ _ e h => th_Zc_m e.alike h⟩
theorem th_mvq {q : Nat} {n : List Int32} : th_MV (fun U => th_Zc G U H ∧ th_Zq G q n U H) := ⟨fun _ _ e h => ⟨th_Zc_m (th_alike e) h.1, th_Zq_m (th_alike e) h.2⟩, fun _ _ e h => ⟨th_Zc_m e.alike h.1, th_Zq_m e.alike h.2⟩⟩
def th_XT (G : th_G) (v : Nat) (n : List Int32) (U : State) (H : Heap) : Prop := n.length < 8 ∧ va_T .byte v n.length (fun j => .int (n.getD j 0)) (fun q => G.2.2 ≤ q) U H
theorem th_XT_m {u U : State} {q : Nat} {n : List Int32} (hvm : u.vm.Alike U.vm) (h : th_XT G q n u H) : th_XT G q n U H := by
  obtain ⟨h0, h4⟩ := h
  exact ⟨h0, va_T.moved hvm h4⟩
theorem th_mvt {q : Nat} {n : List Int32} : th_MV (fun U => th_Zc G U H ∧ th_XT G q n U H) := ⟨fun _ _ e h => ⟨th_Zc_m (th_alike e) h.1, th_XT_m (th_alike e) h.2⟩, fun _ _ e h => ⟨th_Zc_m e.alike h.1, th_XT_m e.alike h.2⟩⟩
/-- a call of a String's own method -/
theorem th_runQ {nL : Nat} {own : String} {X : State → Prop} (hm : th_MV X) (hX : X s) {b : Nat} {n0 : List Int32} (hq : th_Zq G b n0 s H) (hC : th_C p s m args c cc nL own G) {y : MethodName} {bytes : ByteArray} {maxL n index mc ms : Nat} {ret' : Option FieldType} {rm : Room} {post : Option Value → Heap → Prop} {As : List Value} (hy : y.cls = "java/lang/String") (hF : th_MF y bytes maxL ret' n) (hlk : Cond.methodLink own index y ∈ th_tb) (hin : Cond.instanceMethod y ∈ th_tb) (hse : Cond.selects y.cls y y ∈ th_tb)
    (hM : Met l y (.code y bytes maxL ret' :: th_tb) rm (th_PX (.ref b :: As) G H X) (th_Q post G) mc ms (fun q => G.2.2 ≤ q)) (hrc : rm.cells = mc) (hrs : rm.slots = ms) (hR : rm.frames + 1 ≤ R.frames ∧ 8 + (maxL + 11) + rm.locals ≤ R.locals)
    {st0 : List Value} (hn : As.length = n) (hsize : ls.size = nL) (hstack : st0 = As.reverse ++ .ref b :: rest) (hW : (rest.map fun v => v.category).sum ≤ 8) (hdg : decode cc pc = .ok (.invokevirtual index, 3)) (hf : cells + mc ≤ R.cells ∧ slots + ms ≤ R.slots) :
    va_Run p l e R s m args below meth c H locs cells slots mc ms (F0 m pc ls st0) rest (th_Q post G (Value.ref b :: As).toArray) (fun q => G.2.2 ≤ q) := by
  obtain ⟨-, v, ⟨cell, q1, q2, q3, -⟩, -⟩ := hq
  exact va_runV (nL := nL) (Ts := th_tb) (C := y.cls) ⟨hC.1, hC.2.1, hC.2.2.1, hC.2.2.2.1, hC.2.2.2.2.1⟩ hM ⟨th_cb hC hF hlk hrc hrs hR, hC.2.2.2.2.1 _ hin, hC.2.2.2.2.1 _ hse⟩ ⟨th_blindX hm, ⟨cell, q1, q2, by rw [hy]; exact q3⟩, fun U hU hW => ⟨rfl, hU, th_K_moved hW.alike hC.2.2.2.2.2, hm.2 s U hW hX⟩⟩ rfl hn hsize hstack (lv_room hW) hdg hf
/-- the words of the language: place in the pool, text, bytes -/
def th_st27 : List (Nat × String × List Int32) := [(94, "costs", [99, 111, 115, 116, 115]), (100, "wears", [119, 101, 97, 114, 115]), (102, "bars", [98, 97, 114, 115]), (104, "lay", [108, 97, 121]), (106, "roll", [114, 111, 108, 108]), (108, "mirror", [109, 105, 114, 114, 111, 114]), (110, "pass", [112, 97, 115, 115]), (112, "if", [105, 102]), (114, "times", [116, 105, 109, 101, 115]), (116, "at", [97, 116]), (117, "by", [98, 121]), (119, "or", [111, 114]), (121, "and", [97, 110, 100]), (123, "not", [110, 111, 116]), (125, "carpet", [99, 97, 114, 112, 101, 116]), (127, "side", [115, 105, 100, 101]), (129, "kind", [107, 105, 110, 100]), (131, "pile", [112, 105, 108, 101]), (133, "x", [120]), (135, "y", [121]), (137, "year", [121, 101, 97, 114]), (139, "mood", [109, 111, 111, 100]), (141, "done", [100, 111, 110, 101]), (143, "latest", [108, 97, 116, 101, 115, 116]), (145, "bare", [98, 97, 114, 101]), (147, "paid", [112, 97, 105, 100]), (149, "laid", [108, 97, 105, 100])]
def th_Z (G : th_G) (U : State) (H : Heap) : Prop := th_Zc G U H ∧ ∀ k : Nat × String × List Int32, k ∈ th_st27 → ∃ q : Nat, th_Zq G q k.2.2 U H ∧ vk_R RX5 k.1 k.2.1 q U
theorem th_Z_k {U : State} {H1 : Heap} (h : th_Z G U H) (hS : va_S (fun q => G.2.2 ≤ q) H H1 locs) : th_Z G U H1 := ⟨th_Zc_k h.1 hS, fun k hk => by obtain ⟨q, h1, h2⟩ := h.2 k hk; exact ⟨q, th_Zq_k h1 hS, h2⟩⟩
theorem th_mvZ : th_MV (fun U => th_Z G U H) := ⟨fun _ _ e h => ⟨th_Zc_m (th_alike e) h.1, fun k hk => by obtain ⟨q, h1, h2⟩ := h.2 k hk; exact ⟨q, th_Zq_m (th_alike e) h1, h2.same e⟩⟩, fun _ _ e h => ⟨th_Zc_m e.alike h.1, fun k hk => by obtain ⟨q, h1, h2⟩ := h.2 k hk; exact ⟨q, th_Zq_m e.alike h1, h2.warm e⟩⟩⟩
theorem th_ksub {x s z : Int32} (e : z = x - s) (h1 : 301 ≤ s.toInt) (h2 : s.toInt ≤ 304) (h3 : 0 ≤ z.toInt) : x.toInt ≠ -1 := by
  intro q
  have h4 := ti_sub (x := x) (y := s) q rfl (by omega) (by omega)
  rw [← e] at h4
  omega
theorem th_nch (x : Int32) : narrow .char (.int (x.toUInt32 % 65536).toInt32) = .int (x.toUInt32 % 65536).toInt32 := by
  show Value.int ((x.toUInt32 % 65536).toInt32.toUInt32.toUInt16.toUInt32.toInt32) = _
  congr 1
  rw [UInt32.toUInt32_toInt32]
  congr 1
  apply UInt32.toNat_inj.mp
  simp [UInt32.toNat_mod]
theorem th_shr0 {n : Nat} (h : n < 8) : (Int32.ofNat n >>> ((0 : Int32) &&& 31)).toInt = (n : Int) := by
  have h2 : ∀ k : Fin 8, (Int32.ofNat k.1 >>> ((0 : Int32) &&& 31)).toInt = ((k.1 : Nat) : Int) := by decide
  exact h2 ⟨n, h⟩
theorem c_J0_coder (l : Launch) (G : th_G) (H0 : Heap) (q : Nat) (n : List Int32) : Met l yJ0_coder_7d493 (.code yJ0_coder_7d493 cJ0_coder_7d493 1 (some FieldType.byte) :: th_tb) ({ frames := 0, cells := 0, slots := 0, locals := 0 } : Room) (th_PX [.ref q] G H0 (fun U => th_Zc G U H0 ∧ th_Zq G q n U H0)) (th_Q (fun (v : Option Value) (H1 : Heap) => v = some (.int 0) ∧ H0 = H1) G) 0 0 (fun q => G.2.2 ≤ q) := by
  refine th_metX RJ0 (by decide) rfl (Nat.le_of_ble_eq_true rfl) ?_
  intro p e s m below meth c hC hX hH hr hlocks hnm ls hl
  subst hH
  obtain ⟨⟨hz, -⟩, -, v, h1, h2, h3, h4⟩ := hX
  have hx := hC.1
  have hb := hC.2.1
  have hl : lv_has ls 1 [(0, .ref q)] := hl
  refine va_gets hx hb hz va_S.rf hC.2.2.2.1 (hC.2.2.2.2.1 _ kw_618) (fun _ h => h) dJ0_coder_7d493_0 ?_
  refine tr_if_eq (tgt := 13) hx hb dJ0_coder_7d493_3 (by decide) tk_1 (fun c3 => ?_) (fun c3 => ?_)
  · exfalso; omega
  · refine lv_aload_n hx hb dJ0_coder_7d493_6 rfl (lv_at hl 0 rfl) ?_
    refine vk_getf hx hb h2 va_S.rf hC.2.2.2.1 (hC.2.2.2.2.1 _ kw_1966) (fun _ h => h) dJ0_coder_7d493_7 ?_
    refine lv_goto (tgt := 14) hx hb dJ0_coder_7d493_10 (by decide) ?_
    exact th_iret hC rfl hr hlocks rfl va_S.rf ⟨rfl, rfl⟩ dJ0_coder_7d493_14
theorem c_J0_isLatin1 (l : Launch) (G : th_G) (H0 : Heap) (q : Nat) (n : List Int32) : Met l yJ0_isLatin1_aae02 (.code yJ0_isLatin1_aae02 cJ0_isLatin1_aae02 1 (some FieldType.boolean) :: th_tb) ({ frames := 0, cells := 0, slots := 0, locals := 0 } : Room) (th_PX [.ref q] G H0 (fun U => th_Zc G U H0 ∧ th_Zq G q n U H0)) (th_Q (fun (v : Option Value) (H1 : Heap) => v = some (.int 1) ∧ H0 = H1) G) 0 0 (fun q => G.2.2 ≤ q) := by
  refine th_metX RJ0 (by decide) rfl (Nat.le_of_ble_eq_true rfl) ?_
  intro p e s m below meth c hC hX hH hr hlocks hnm ls hl
  subst hH
  obtain ⟨⟨hz, -⟩, -, v, h1, h2, h3, h4⟩ := hX
  have hx := hC.1
  have hb := hC.2.1
  have hl : lv_has ls 1 [(0, .ref q)] := hl
  refine va_gets hx hb hz va_S.rf hC.2.2.2.1 (hC.2.2.2.2.1 _ kw_618) (fun _ h => h) dJ0_isLatin1_aae02_0 ?_
  refine tr_if_eq (tgt := 17) hx hb dJ0_isLatin1_aae02_3 (by decide) tk_1 (fun c3 => ?_) (fun c3 => ?_)
  · exfalso; omega
  · refine lv_aload_n hx hb dJ0_isLatin1_aae02_6 rfl (lv_at hl 0 rfl) ?_
    refine vk_getf hx hb h2 va_S.rf hC.2.2.2.1 (hC.2.2.2.2.1 _ kw_1966) (fun _ h => h) dJ0_isLatin1_aae02_7 ?_
    refine tr_if_ne (tgt := 17) hx hb dJ0_isLatin1_aae02_10 (by decide) tk_0 (fun c3 => ?_) (fun c3 => ?_)
    · exfalso; omega
    · refine lv_iconst (v := 1) hx hb dJ0_isLatin1_aae02_13 (by decide) ?_
      refine lv_goto (tgt := 18) hx hb dJ0_isLatin1_aae02_14 (by decide) ?_
      exact th_iret hC rfl hr hlocks narrow_b1 va_S.rf ⟨rfl, rfl⟩ dJ0_isLatin1_aae02_18
theorem c_J0_length (l : Launch) (G : th_G) (H0 : Heap) (q : Nat) (n : List Int32) : Met l yJ0_length_8abf5 (.code yJ0_length_8abf5 cJ0_length_8abf5 1 (some FieldType.int) :: th_tb) ({ frames := 1, cells := 0, slots := 0, locals := 20 } : Room) (th_PX [.ref q] G H0 (fun U => th_Zc G U H0 ∧ th_Zq G q n U H0)) (th_Q (fun (v : Option Value) (H1 : Heap) => ∃ r : Int32, v = some (.int r) ∧ r.toInt = (n.length : Int) ∧ H0 = H1) G) 0 0 (fun q => G.2.2 ≤ q) := by
  refine th_metX RJ0 (by decide) rfl (Nat.le_of_ble_eq_true rfl) ?_
  intro p e s m below meth c hC hX hH hr hlocks hnm ls hl
  subst hH
  obtain ⟨hn, v, h1, h2, h3, h4⟩ := id hX.2
  have hx := hC.1
  have hb := hC.2.1
  have hl : lv_has ls 1 [(0, .ref q)] := hl
  refine lv_aload_n hx hb dJ0_length_8abf5_0 rfl (lv_at hl 0 rfl) ?_
  refine vk_getf hx hb h3 va_S.rf hC.2.2.2.1 (hC.2.2.2.2.1 _ kw_1965) (fun _ h => h) dJ0_length_8abf5_1 ?_
  refine va_tlen hx hb h4 va_S.rf rfl dJ0_length_8abf5_4 ?_
  refine lv_aload_n hx hb dJ0_length_8abf5_5 rfl (lv_at hl 0 rfl) ?_
  refine th_call (th_runQ (As := []) (rest := [.int (Int32.ofNat n.length)]) th_mvq hX hX.2 hC rfl mf_J0_coder_7d493 kw_614 im_J0_coder_7d493 se_J0_coder_7d493 (c_J0_coder l G s.heap q n) rfl rfl ⟨Nat.le_of_ble_eq_true rfl, Nat.le_of_ble_eq_true rfl⟩ rfl hl.1 rfl (Nat.le_of_ble_eq_true rfl) dJ0_length_8abf5_6 ⟨Nat.le_refl _, Nat.le_refl _⟩) va_S.rf (fun v6 H6 locs hp hz hS => ?_)
  obtain ⟨rfl, rfl⟩ := hp
  refine W.eq (g2 := F0 m 9 ls [.int 0, .int (Int32.ofNat n.length)]) rfl ?_
  refine lv_ishr hx hb dJ0_length_8abf5_9 ?_
  exact th_iret hC rfl hr hlocks rfl hS ⟨_, rfl, th_shr0 hn, rfl⟩ dJ0_length_8abf5_10
theorem mf_J3 : th_MF yJ3_checkIndex_8e157 cJ3_checkIndex_8e157 3 (some FieldType.int) 3 := ⟨kw_638, kw_18, by decide +kernel⟩
theorem c_J3_checkIndex (l : Launch) (G : th_G) (H0 : Heap) (i n : Int32) (w : Value) (hw : w = .null ∨ ∃ a : Nat, w = .ref a) (h1 : 0 ≤ i.toInt) (h2 : i.toInt < n.toInt) : Met l yJ3_checkIndex_8e157 (.code yJ3_checkIndex_8e157 cJ3_checkIndex_8e157 3 (some FieldType.int) :: th_tb) ({ frames := 0, cells := 0, slots := 0, locals := 0 } : Room) (th_P [.int i, .int n, w] G H0) (th_Q (fun (v : Option Value) (H1 : Heap) => (∃ r : Int32, v = some (.int r)) ∧ H0 = H1) G) 0 0 (fun q => G.2.2 ≤ q) := by
  refine th_met RJ3 (by decide) rfl (by rcases hw with rfl | ⟨b, rfl⟩ <;> exact Nat.le_of_ble_eq_true rfl) ?_
  intro p e s m below meth c hC hH hr hlocks hnm ls hl
  subst hH
  have hx := hC.1
  have hb := hC.2.1
  have hl : lv_has ls 3 [(0, .int i), (1, .int n), (2, w)] := by rcases hw with rfl | ⟨b, rfl⟩ <;> exact hl
  refine lv_iload_n hx hb dJ3_checkIndex_8e157_0 rfl (lv_at hl 0 rfl) ?_
  refine tr_if_lt (tgt := 9) hx hb dJ3_checkIndex_8e157_1 (by decide) (Eq.refl _) (fun c3 => ?_) (fun c3 => ?_)
  · exfalso; omega
  · refine lv_iload_n hx hb dJ3_checkIndex_8e157_4 rfl (lv_at hl 0 rfl) ?_
    refine lv_iload_n hx hb dJ3_checkIndex_8e157_5 rfl (lv_at hl 1 rfl) ?_
    refine tr_icmp_lt (tgt := 16) hx hb dJ3_checkIndex_8e157_6 (by decide) (Eq.refl _) (Eq.refl _) (fun c4 => ?_) (fun c4 => ?_)
    · refine lv_iload_n hx hb dJ3_checkIndex_8e157_16 rfl (lv_at hl 0 rfl) ?_
      exact th_iret hC rfl hr hlocks rfl va_S.rf ⟨⟨_, rfl⟩, rfl⟩ dJ3_checkIndex_8e157_17
    · exfalso; omega
theorem c_J0_checkIndex (l : Launch) (G : th_G) (H0 : Heap) (i n : Int32) (h1 : 0 ≤ i.toInt) (h2 : i.toInt < n.toInt) : Met l yJ0_checkIndex_df160 (.code yJ0_checkIndex_df160 cJ0_checkIndex_df160 2 none :: th_tb) ({ frames := 1, cells := 0, slots := 0, locals := 22 } : Room) (th_PX [.int i, .int n] G H0 (fun U => th_Zc G U H0)) (th_Q (fun (v : Option Value) (H1 : Heap) => v = none ∧ H0 = H1) G) 0 0 (fun q => G.2.2 ≤ q) := by
  refine th_metX RJ0 (by decide) rfl (Nat.le_of_ble_eq_true rfl) ?_
  intro p e s m below meth c hC hX hH hr hlocks hnm ls hl
  subst hH
  obtain ⟨-, w, hw, hz⟩ := hX
  have hx := hC.1
  have hb := hC.2.1
  have hl : lv_has ls 2 [(0, .int i), (1, .int n)] := hl
  refine lv_iload_n hx hb dJ0_checkIndex_df160_0 rfl (lv_at hl 0 rfl) ?_
  refine lv_iload_n hx hb dJ0_checkIndex_df160_1 rfl (lv_at hl 1 rfl) ?_
  refine va_gets hx hb hz va_S.rf hC.2.2.2.1 (hC.2.2.2.2.1 _ kw_634) (fun _ h => h) dJ0_checkIndex_df160_2 ?_
  refine th_call (th_runS (As := [.int i, .int n, w]) (rest := []) hC mf_J3 kw_636 kw_637 (c_J3_checkIndex l G s.heap i n w hw h1 h2) rfl rfl ⟨Nat.le_of_ble_eq_true rfl, Nat.le_of_ble_eq_true rfl⟩ rfl hl.1 rfl (Nat.le_of_ble_eq_true rfl) dJ0_checkIndex_df160_5 ⟨Nat.le_refl _, Nat.le_refl _⟩) va_S.rf (fun v6 H6 locs hp hz hS => ?_)
  obtain ⟨⟨r, rfl⟩, rfl⟩ := hp
  refine W.eq (g2 := F0 m 8 ls [.int r]) rfl ?_
  refine lv_pop hx hb dJ0_checkIndex_df160_8 rfl ?_
  exact th_vret hC rfl hr hlocks hS ⟨rfl, rfl⟩ dJ0_checkIndex_df160_9
theorem c_J1_charAt (l : Launch) (G : th_G) (H0 : Heap) (q : Nat) (n : List Int32) (i : Int32) (h1 : 0 ≤ i.toInt) (h2 : i.toInt < (n.length : Int)) : Met l yJ1_charAt_3b067 (.code yJ1_charAt_3b067 cJ1_charAt_3b067 2 (some FieldType.char) :: th_tb) ({ frames := 2, cells := 0, slots := 0, locals := 43 } : Room) (th_PX [.ref q, .int i] G H0 (fun U => th_Zc G U H0 ∧ th_XT G q n U H0)) (th_Q (fun (v : Option Value) (H1 : Heap) => (∃ r : Int32, v = some (.int r) ∧ narrow .char (.int r) = .int r ∧ r.toInt = dv_ch (n.getD i.toInt.toNat 0)) ∧ H0 = H1) G) 0 0 (fun q => G.2.2 ≤ q) := by
  refine th_metX RJ1 (by decide) rfl (Nat.le_of_ble_eq_true rfl) ?_
  intro p e s m below meth c hC hX hH hr hlocks hnm ls hl
  subst hH
  obtain ⟨hzc, hn, h4⟩ := id hX
  have hx := hC.1
  have hb := hC.2.1
  have hl : lv_has ls 2 [(0, .ref q), (1, .int i)] := hl
  have hni : (Int32.ofNat n.length).toInt = (n.length : Int) := Int32.toInt_ofNat_of_lt (by omega)
  refine lv_iload_n hx hb dJ1_charAt_3b067_0 rfl (lv_at hl 1 rfl) ?_
  refine lv_aload_n hx hb dJ1_charAt_3b067_1 rfl (lv_at hl 0 rfl) ?_
  refine va_tlen hx hb h4 va_S.rf rfl dJ1_charAt_3b067_2 ?_
  refine th_call (th_runSX (As := [.int i, .int (Int32.ofNat n.length)]) (rest := []) th_mvc hzc hC mf_J0_checkIndex_df160 kw_631 st_J0_checkIndex_df160 (c_J0_checkIndex l G s.heap i (Int32.ofNat n.length) h1 (by rw [hni]; exact h2)) rfl rfl ⟨Nat.le_of_ble_eq_true rfl, Nat.le_of_ble_eq_true rfl⟩ rfl hl.1 rfl (Nat.le_of_ble_eq_true rfl) dJ1_charAt_3b067_3 ⟨Nat.le_refl _, Nat.le_refl _⟩) va_S.rf (fun v6 H6 locs hp hz hS => ?_)
  obtain ⟨rfl, rfl⟩ := hp
  refine W.eq (g2 := F0 m 6 ls []) rfl ?_
  refine lv_aload_n hx hb dJ1_charAt_3b067_6 rfl (lv_at hl 0 rfl) ?_
  refine lv_iload_n hx hb dJ1_charAt_3b067_7 rfl (lv_at hl 1 rfl) ?_
  refine va_tb hx hb h4 hS (ti_in h1 h2) rfl dJ1_charAt_3b067_8 ?_
  refine lv_sipush (v := 255) hx hb dJ1_charAt_3b067_9 (by decide) ?_
  refine lv_iand hx hb dJ1_charAt_3b067_12 ?_
  refine lv_i2c hx hb dJ1_charAt_3b067_13 rfl ?_
  exact th_iret hC rfl hr hlocks (th_nch _) hS ⟨⟨_, rfl, th_nch _, rfl⟩, rfl⟩ dJ1_charAt_3b067_14
theorem c_J0_charAt (l : Launch) (G : th_G) (H0 : Heap) (q : Nat) (n : List Int32) (i : Int32) (h1 : 0 ≤ i.toInt) (h2 : i.toInt < (n.length : Int)) : Met l yJ0_charAt_5068e (.code yJ0_charAt_5068e cJ0_charAt_5068e 2 (some FieldType.char) :: th_tb) ({ frames := 3, cells := 0, slots := 0, locals := 64 } : Room) (th_PX [.ref q, .int i] G H0 (fun U => th_Zc G U H0 ∧ th_Zq G q n U H0)) (th_Q (fun (v : Option Value) (H1 : Heap) => (∃ r : Int32, v = some (.int r) ∧ r.toInt = dv_ch (n.getD i.toInt.toNat 0)) ∧ H0 = H1) G) 0 0 (fun q => G.2.2 ≤ q) := by
  refine th_metX RJ0 (by decide) rfl (Nat.le_of_ble_eq_true rfl) ?_
  intro p e s m below meth c hC hX hH hr hlocks hnm ls hl
  subst hH
  obtain ⟨hn, v, h3, h4, h5, h6⟩ := id hX.2
  have hx := hC.1
  have hb := hC.2.1
  have hl : lv_has ls 2 [(0, .ref q), (1, .int i)] := hl
  refine lv_aload_n hx hb dJ0_charAt_5068e_0 rfl (lv_at hl 0 rfl) ?_
  refine th_call (th_runQ (As := []) (rest := []) th_mvq hX hX.2 hC rfl mf_J0_isLatin1_aae02 kw_624 im_J0_isLatin1_aae02 se_J0_isLatin1_aae02 (c_J0_isLatin1 l G s.heap q n) rfl rfl ⟨Nat.le_of_ble_eq_true rfl, Nat.le_of_ble_eq_true rfl⟩ rfl hl.1 rfl (Nat.le_of_ble_eq_true rfl) dJ0_charAt_5068e_1 ⟨Nat.le_refl _, Nat.le_refl _⟩) va_S.rf (fun v6 H6 locs hp hz hS => ?_)
  obtain ⟨rfl, rfl⟩ := hp
  refine W.eq (g2 := F0 m 4 ls [.int 1]) rfl ?_
  refine tr_if_eq (tgt := 16) hx hb dJ0_charAt_5068e_4 (by decide) tk_1 (fun c3 => ?_) (fun c3 => ?_)
  · exfalso; omega
  · refine lv_aload_n hx hb dJ0_charAt_5068e_7 rfl (lv_at hl 0 rfl) ?_
    refine vk_getf hx hb h5 hS hC.2.2.2.1 (hC.2.2.2.2.1 _ kw_1965) (fun _ h => h) dJ0_charAt_5068e_8 ?_
    refine lv_iload_n hx hb dJ0_charAt_5068e_11 rfl (lv_at hl 1 rfl) ?_
    refine th_call (th_runSX (As := [.ref v, .int i]) (rest := []) (th_mvt (n := n)) ⟨hX.1, hn, h6⟩ hC mf_J1_charAt_3b067 kw_628 st_J1_charAt_3b067 (c_J1_charAt l G s.heap v n i h1 h2) rfl rfl ⟨Nat.le_of_ble_eq_true rfl, Nat.le_of_ble_eq_true rfl⟩ rfl hl.1 rfl (Nat.le_of_ble_eq_true rfl) dJ0_charAt_5068e_12 ⟨Nat.le_refl _, Nat.le_refl _⟩) hS (fun v6 H6 locs hp hz hS => ?_)
    obtain ⟨⟨r, rfl, hnr, her⟩, rfl⟩ := hp
    refine W.eq (g2 := F0 m 15 ls [.int r]) rfl ?_
    exact th_iret hC rfl hr hlocks hnr hS ⟨⟨_, rfl, her⟩, rfl⟩ dJ0_charAt_5068e_15
end TSTR
