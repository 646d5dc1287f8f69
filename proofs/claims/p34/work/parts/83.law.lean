section LW2
variable {p : Program} {l : Launch} {e : Env} {R : Room} {s : State} {m : MethodId} {args : Array Value} {below : List Frame} {meth : Method} {c : Code} {H H0 H1 : Heap} {locs : List Loc} {cells slots : Nat} {Q : State → Prop}
variable {cc : ByteArray} {pc : Nat} {ls : Array Slot} {rest : List Value} {G : th_G} {Γ Γ0 Γ1 : th_Ga}
/-- what the law's loop stands on -/
def lw_E (p : Program) (s : State) (m : MethodId) (c : Code) (b L : Nat) (xs : Nat → Int32) (G : th_G) (Γ : th_Ga) (ax am : Nat) : Prop := th_C p s m #[Value.ref b] c cL_law 4 RL G ∧ G.2.2 = s.heap.size ∧ th_Z G s s.heap ∧ va_X b L xs s s.heap ∧ b < s.heap.size ∧ Γ ax = (42, 0) ∧ Γ am = (46, 0) ∧ ∀ a a1 o o1 : Nat, Γ a = (20, o) → Γ a1 = (20, o1) → a = a1
def lw_cv (G : th_G) (H : Heap) (kr st s0 s1 : Nat) : (Int → Int) × Int × Int × Int := (tv_v H kr, tv_f G H st 8 7, tv_f G H s0 8 7, tv_f G H s1 8 7)
def lw_mv (G : th_G) (H : Heap) (am : Nat) : (Int → Int) × Int × Int × Int := (mo_v G H am 4, mo_v G H am 2 70, mo_v G H am 3 70, mo_v G H am 3 5750)
theorem lw_i70 {k b : Int} {a : Int → Int} : (if 0 ≤ k ∧ k ≤ 1 then (if 5680 * k ≤ 70 ∧ 70 < 5680 * k + 5680 then a (70 - 5680 * k) else b) else b) = if k = 0 then a 70 else b := by
  by_cases h : k = 0
  · subst h
    rw [if_pos (by decide), if_pos (by decide), if_pos rfl]
    rfl
  · rw [if_neg h]
    by_cases h1 : 0 ≤ k ∧ k ≤ 1
    · rw [if_pos h1, if_neg (by omega)]
    · rw [if_neg h1]
theorem lw_i57 {k b : Int} {a : Int → Int} : (if 0 ≤ k ∧ k ≤ 1 then (if 5680 * k ≤ 5750 ∧ 5750 < 5680 * k + 5680 then a (5750 - 5680 * k) else b) else b) = if k = 1 then a 70 else b := by
  by_cases h : k = 1
  · subst h
    rw [if_pos (by decide), if_pos (by decide), if_pos rfl]
    rfl
  · rw [if_neg h]
    by_cases h1 : 0 ≤ k ∧ k ≤ 1
    · rw [if_pos h1, if_neg (by omega)]
    · rw [if_neg h1]
theorem lw_i58 {k b x : Int} {c : Int → Int} : (if 0 ≤ k ∧ k ≤ 1 ∧ x ≠ 0 then c (5680 * k + 70) else b) = if (0 ≤ k ∧ k ≤ 1) ∧ x ≠ 0 then (if k = 0 then c 70 else c 5750) else b := by
  by_cases h : (0 ≤ k ∧ k ≤ 1) ∧ x ≠ 0
  · rw [if_pos ⟨h.1.1, h.1.2, h.2⟩, if_pos h]
    by_cases h0 : k = 0
    · rw [if_pos h0, h0]
      rfl
    · rw [if_neg h0, show k = 1 by omega]
      rfl
  · rw [if_neg (fun w => h ⟨⟨w.1, w.2.1⟩, w.2.2⟩), if_neg h]
/-- the views of class and reference that the row is about -/
def lw_V (G : th_G) (ax am kr st s0 s1 im : Nat) (H : Heap) (vc vm : (Int → Int) × Int × Int × Int) : Prop := th_sl H ax (G.1.2 11 2) = .ref kr ∧ th_sl H ax (G.1.2 11 0) = .ref st ∧ th_sl H ax (G.1.2 11 1) = .ref im ∧ th_sl H im 0 = .ref s0 ∧ th_sl H im 1 = .ref s1 ∧ lw_cv G H kr st s0 s1 = vc ∧ lw_mv G H am = vm
theorem lw_vG {ax am kr st s0 s1 im : Nat} {vc vm vc1 vm1 : (Int → Int) × Int × Int × Int} {L : List (Nat × Nat)} (hV : lw_V G ax am kr st s0 s1 im H vc vm) (hF : th_F G Γ L H H1) (hax : Γ ax = (42, 0)) (hkr : Γ kr = (44, ax) ∧ Γ st = (32, 0) ∧ Γ s0 = (32, 0) ∧ Γ s1 = (32, 0) ∧ Γ im = (43, ax) ∧ st ≠ s0 ∧ st ≠ s1 ∧ s0 ≠ s1) (hL : th_in L 42 0 = false ∧ th_in L 42 1 = false ∧ th_in L 42 2 = false ∧ th_in L 43 0 = false) (hc : lw_cv G H1 kr st s0 s1 = vc1) (hm : lw_mv G H1 am = vm1) : lw_V G ax am kr st s0 s1 im H1 vc1 vm1 := ⟨(th_F_o hF hax ro_42 (j := 2) (by decide) hL.2.2.1).trans hV.1, (th_F_o hF hax ro_42 (j := 0) (by decide) hL.1).trans hV.2.1, (th_F_o hF hax ro_42 (j := 1) (by decide) hL.2.1).trans hV.2.2.1, (th_F_a hF hkr.2.2.2.2.1 ro_43 hL.2.2.2 0).trans hV.2.2.2.1, (th_F_a hF hkr.2.2.2.2.1 ro_43 hL.2.2.2 1).trans hV.2.2.2.2.1, hc, hm⟩
theorem lw_vC {ax am kr st s0 s1 im : Nat} {vc vm : (Int → Int) × Int × Int × Int} {L : List (Nat × Nat)} (hV : lw_V G ax am kr st s0 s1 im H vc vm) (hF : th_F G Γ L H H1) (hkr : Γ kr = (44, ax) ∧ Γ st = (32, 0) ∧ Γ s0 = (32, 0) ∧ Γ s1 = (32, 0) ∧ Γ im = (43, ax) ∧ st ≠ s0 ∧ st ≠ s1 ∧ s0 ≠ s1) (hL : th_in L 44 0 = false ∧ th_in L 32 7 = false) : lw_cv G H1 kr st s0 s1 = vc := by
  unfold lw_cv
  rw [tv_v_F hF hkr.1 ro_44 hL.1, tv_f_F (j := 7) hF hkr.2.1 ro_32 (by decide) hL.2, tv_f_F (j := 7) hF hkr.2.2.1 ro_32 (by decide) hL.2, tv_f_F (j := 7) hF hkr.2.2.2.1 ro_32 (by decide) hL.2]
  exact hV.2.2.2.2.2.1
theorem lw_vM7 {ax am kr st s0 s1 im : Nat} {vc vm : (Int → Int) × Int × Int × Int} {L : List (Nat × Nat)} (hV : lw_V G ax am kr st s0 s1 im H vc vm) (hI1 : th_I G Γ H1) (hF : th_F G Γ L H H1) (ham : Γ am = (46, 0)) (hL : (th_in L 46 3 = false ∧ th_in L 49 0 = false) ∧ th_in L 46 4 = false ∧ th_in L 50 0 = false) (hz : mo_v G H1 am 2 70 = mo_v G H am 2 70) : lw_mv G H1 am = vm := by
  unfold lw_mv
  rw [mo_v_F (j := 4) (r := 50) hI1 hF ham rfl ro_50 hL.2.1 hL.2.2, mo_v_F (j := 3) (r := 49) hI1 hF ham rfl ro_49 hL.1.1 hL.1.2, hz]
  exact hV.2.2.2.2.2.2
theorem lw_vM {ax am kr st s0 s1 im : Nat} {vc vm : (Int → Int) × Int × Int × Int} {L : List (Nat × Nat)} (hV : lw_V G ax am kr st s0 s1 im H vc vm) (hI1 : th_I G Γ H1) (hF : th_F G Γ L H H1) (ham : Γ am = (46, 0)) (hL : (th_in L 46 2 = false ∧ th_in L 48 0 = false) ∧ (th_in L 46 3 = false ∧ th_in L 49 0 = false) ∧ th_in L 46 4 = false ∧ th_in L 50 0 = false) : lw_mv G H1 am = vm := lw_vM7 hV hI1 hF ham hL.2 (congrFun (mo_v_F (j := 2) (r := 48) hI1 hF ham rfl ro_48 hL.1.1 hL.1.2) 70)
theorem lw_n9 {a0 r : Nat} {Ls : List Nat} (hy : th_NY G lw_g0 Γ1 a0 r Ls H H1) {q x o : Nat} (h : Γ1 q = (x, o)) (hx : x ≠ 0) : q = a0 ∨ H.size ≤ q := by
  by_cases w : q = a0 ∨ H.size ≤ q
  · exact w
  · exact absurd (lw_g0c ((hy.1.2.2 q (by omega) (by omega)).1.symm.trans h)) hx
theorem lw_el (hI : th_I G Γ H) {im o i : Nat} (him : Γ im = (43, o)) (hi : i < 2) : ∃ b : Nat, th_sl H im i = .ref b ∧ Γ b = (32, 0) := by
  obtain ⟨-, n, h1, h2, h3, h4⟩ := hI im 43 o _ him ro_43
  exact h4 i (by omega)
theorem lw_vF {ax am kr st s0 s1 im : Nat} {vc vm : (Int → Int) × Int × Int × Int} {L : List (Nat × Nat)} (hV : lw_V G ax am kr st s0 s1 im H vc vm) (hI1 : th_I G Γ H1) (hF : th_F G Γ L H H1) (hax : Γ ax = (42, 0)) (ham : Γ am = (46, 0)) (hkr : Γ kr = (44, ax) ∧ Γ st = (32, 0) ∧ Γ s0 = (32, 0) ∧ Γ s1 = (32, 0) ∧ Γ im = (43, ax) ∧ st ≠ s0 ∧ st ≠ s1 ∧ s0 ≠ s1) (hL : (th_in L 42 0 = false ∧ th_in L 42 1 = false ∧ th_in L 42 2 = false ∧ th_in L 43 0 = false) ∧ (th_in L 44 0 = false ∧ th_in L 32 7 = false) ∧ (th_in L 46 2 = false ∧ th_in L 48 0 = false) ∧ (th_in L 46 3 = false ∧ th_in L 49 0 = false) ∧ th_in L 46 4 = false ∧ th_in L 50 0 = false) : lw_V G ax am kr st s0 s1 im H1 vc vm := lw_vG hV hF hax hkr hL.1 (lw_vC hV hF hkr hL.2.1) (lw_vM hV hI1 hF ham hL.2.2)
def lw_Cp (vc vm : (Int → Int) × Int × Int × Int) : Prop := (∀ z : Int, 0 ≤ z → z ≤ 1 → vc.1 z = vm.1 z) ∧ vc.2 = vm.2
/-- what it keeps -/
def lw_J (G : th_G) (Γ : th_Ga) (ax am kr st s0 s1 im : Nat) (s : State) (H : Heap) (locs : List Loc) (u : Nat) (vc vm : (Int → Int) × Int × Int × Int) : Prop := th_I G Γ H ∧ th_RN am G Γ H ∧ th_bits G Γ H u ∧ va_S (fun q => G.2.2 ≤ q) s.heap H locs ∧ lw_V G ax am kr st s0 s1 im H vc vm
theorem lw_hA {b L ax am : Nat} {xs : Nat → Int32} (hE : lw_E p s m c b L xs G Γ ax am) : ¬ (fun q : Nat => G.2.2 ≤ q) b := by
  show ¬ G.2.2 ≤ b
  rw [hE.2.1]
  exact Nat.not_le.mpr hE.2.2.2.2.1
/-- script[i + k] -/
theorem lw_ld {b L ax am n kn pc1 pc2 pc3 pc4 pc' : Nat} {xs : Nat → Int32} (hE : lw_E p s m c b L xs G Γ ax am) (hS : va_S (fun q => G.2.2 ≤ q) s.heap H locs) (hl : lv_has ls 4 [(3, .int (nI n)), (2, .ref am), (1, .ref ax), (0, .ref b)]) (hn : n + 6 ≤ L) (hL : L ≤ 384) {k : Int} (d0 : decode cL_law pc = .ok (.aload_n 0, 1)) (h1 : pc + 1 = pc1) (d1 : decode cL_law pc1 = .ok (.iload_n 3, 1)) (h2 : pc1 + 1 = pc2) (d2 : decode cL_law pc2 = .ok (.iconst k, 1)) (hk : Int32.ofInt k = nI kn) (hk5 : kn ≤ 5) (h3 : pc2 + 1 = pc3) (d3 : decode cL_law pc3 = .ok (.iadd, 1)) (h4 : pc3 + 1 = pc4) (d4 : decode cL_law pc4 = .ok (.iaload, 1)) (h5 : pc4 + 1 = pc')
    (kk : W p l e R s m #[Value.ref b] below meth c H locs cells slots Q (F0 m pc' ls (.int (xs (n + kn)) :: rest))) : W p l e R s m #[Value.ref b] below meth c H locs cells slots Q (F0 m pc ls rest) := by
  subst h1 h2 h3 h4 h5
  have hx := hE.1.1
  have hb := hE.1.2.1
  refine lv_aload_n hx hb d0 rfl (lv_at hl 3 rfl) ?_
  refine lv_iload_n hx hb d1 rfl (lv_at hl 0 rfl) ?_
  refine lv_iconst hx hb d2 hk ?_
  refine lv_iadd hx hb d3 ?_
  rw [nI_add]
  refine va_sld hx hb hE.2.2.2.1 hE.2.2.2.2.1 (lw_hA hE) hS (vp_in_nI (by omega) (by omega)) d4 ?_
  rw [nI_clamp (by omega)]
  exact kk
theorem lw_call {post : Option Value → Heap → Prop} {a : Array Value} {st0 : List Value} {u am k pc' : Nat} {A : Value → Prop} {ax kr st s0 s1 im : Nat} {vc vm vc1 vm1 : (Int → Int) × Int × Int × Int} (hJ : lw_J G Γ ax am kr st s0 s1 im s H locs u vc vm) (hr : va_Run p l e R s m args below meth c H locs cells slots 0 0 (F0 m pc ls st0) rest (th_Q post G a) (fun q => G.2.2 ≤ q)) (hp : ∀ (v : Option Value) (H1 : Heap), post v H1 → ∃ w : Value, v = some w ∧ w.category = k ∧ A w ∧ th_I G Γ H1 ∧ th_RN am G Γ H1 ∧ th_bits G Γ H1 u ∧ lw_V G ax am kr st s0 s1 im H1 vc1 vm1) (h3 : pc + 3 = pc')
    (kk : ∀ (w : Value) (H1 : Heap) (locs1 : List Loc), w.category = k → A w → lw_J G Γ ax am kr st s0 s1 im s H1 locs1 u vc1 vm1 → W p l e R s m args below meth c H1 locs1 cells slots Q (F0 m pc' ls (w :: rest))) : W p l e R s m args below meth c H locs cells slots Q (F0 m pc ls st0) := by
  subst h3
  refine th_call hr hJ.2.2.2.1 (fun v H1 locs1 h hz hS => ?_)
  obtain ⟨w, rfl, h1, h2, h3, h4, h5, h6⟩ := hp v H1 h
  exact kk w H1 locs1 h1 h2 ⟨h3, h4, h5, hS, h6⟩
theorem lw_call1 {post : Option Value → Heap → Prop} {a : Array Value} {st0 : List Value} {u am pc1 pc' : Nat} (hx : p.tables.exec = Jvm.exec) (hb : c.code = cc) {ax kr st s0 s1 im : Nat} {vc vm vc1 vm1 : (Int → Int) × Int × Int × Int} (hJ : lw_J G Γ ax am kr st s0 s1 im s H locs u vc vm) (hr : va_Run p l e R s m args below meth c H locs cells slots 0 0 (F0 m pc ls st0) rest (th_Q post G a) (fun q => G.2.2 ≤ q)) (hp : ∀ (v : Option Value) (H1 : Heap), post v H1 → ∃ w : Value, v = some w ∧ w.category = 1 ∧ th_I G Γ H1 ∧ th_RN am G Γ H1 ∧ th_bits G Γ H1 u ∧ lw_V G ax am kr st s0 s1 im H1 vc1 vm1) (h3 : pc + 3 = pc1) (d : decode cc pc1 = .ok (.pop, 1)) (h4 : pc1 + 1 = pc')
    (kk : ∀ (H1 : Heap) (locs1 : List Loc), lw_J G Γ ax am kr st s0 s1 im s H1 locs1 u vc1 vm1 → W p l e R s m args below meth c H1 locs1 cells slots Q (F0 m pc' ls rest)) : W p l e R s m args below meth c H locs cells slots Q (F0 m pc ls st0) := by
  subst h4
  exact lw_call (A := fun _ => True) hJ hr (fun v H1 h => by obtain ⟨w, e1, e2, e3⟩ := hp v H1 h; exact ⟨w, e1, e2, trivial, e3⟩) h3 (fun w H1 locs1 hc _ hJ1 => lv_pop hx hb d hc (kk H1 locs1 hJ1))
theorem lw_call2 {post : Option Value → Heap → Prop} {a : Array Value} {st0 : List Value} {u am pc1 pc' : Nat} (hx : p.tables.exec = Jvm.exec) (hb : c.code = cc) {ax kr st s0 s1 im : Nat} {vc vm vc1 vm1 : (Int → Int) × Int × Int × Int} (hJ : lw_J G Γ ax am kr st s0 s1 im s H locs u vc vm) (hr : va_Run p l e R s m args below meth c H locs cells slots 0 0 (F0 m pc ls st0) rest (th_Q post G a) (fun q => G.2.2 ≤ q)) (hp : ∀ (v : Option Value) (H1 : Heap), post v H1 → ∃ w : Value, v = some w ∧ w.category = 2 ∧ th_I G Γ H1 ∧ th_RN am G Γ H1 ∧ th_bits G Γ H1 u ∧ lw_V G ax am kr st s0 s1 im H1 vc1 vm1) (h3 : pc + 3 = pc1) (d : decode cc pc1 = .ok (.pop2, 1)) (h4 : pc1 + 1 = pc')
    (kk : ∀ (H1 : Heap) (locs1 : List Loc), lw_J G Γ ax am kr st s0 s1 im s H1 locs1 u vc1 vm1 → W p l e R s m args below meth c H1 locs1 cells slots Q (F0 m pc' ls rest)) : W p l e R s m args below meth c H locs cells slots Q (F0 m pc ls st0) := by
  subst h4
  exact lw_call (A := fun _ => True) hJ hr (fun v H1 h => by obtain ⟨w, e1, e2, e3⟩ := hp v H1 h; exact ⟨w, e1, e2, trivial, e3⟩) h3 (fun w H1 locs1 hc _ hJ1 => lv_pop2_2 hx hb d hc (kk H1 locs1 hJ1))
/-- a call that may let the memo grow -/
theorem lw_callb {post : Option Value → Heap → Prop} {a : Array Value} {st0 : List Value} {u am pc1 pc' : Nat} (hx : p.tables.exec = Jvm.exec) (hb : c.code = cc) {ax kr st s0 s1 im : Nat} {vc vm vc1 vm1 : (Int → Int) × Int × Int × Int} (hJ : lw_J G Γ ax am kr st s0 s1 im s H locs u vc vm) (hr : va_Run p l e R s m args below meth c H locs (600000 - th_pc u) (7302250 - th_pq u) (th_pc u) (th_pq u) (F0 m pc ls st0) rest (th_Q post G a) (fun q => G.2.2 ≤ q)) (hp : ∀ (v : Option Value) (H1 : Heap), post v H1 → ∃ w : Value, v = some w ∧ w.category = 1 ∧ th_I G Γ H1 ∧ th_RN am G Γ H1 ∧ th_bp G Γ H H1 u ∧ lw_V G ax am kr st s0 s1 im H1 vc1 vm1) (h3 : pc + 3 = pc1) (d : decode cc pc1 = .ok (.pop, 1)) (h4 : pc1 + 1 = pc')
    (kk : ∀ (u1 : Nat) (H1 : Heap) (locs1 : List Loc), lw_J G Γ ax am kr st s0 s1 im s H1 locs1 u1 vc1 vm1 → W p l e R s m args below meth c H1 locs1 (600000 - th_pc u1) (7302250 - th_pq u1) Q (F0 m pc' ls rest)) : W p l e R s m args below meth c H locs (600000 - th_pc u) (7302250 - th_pq u) Q (F0 m pc ls st0) := by
  subst h3 h4
  refine W.count (fun hc1 hc2 => ?_)
  have h8 := lw_pcb hJ.2.2.1.1
  refine th_call hr hJ.2.2.2.1 (fun v H1 locs1 h hz hS => ?_)
  obtain ⟨w, rfl, h1, h2, h3, ⟨u1, b1, b2, b3, b4, b5⟩, h6⟩ := hp v H1 h
  have h9 := lw_pcb b1.1
  refine W.tight (k := 600000 - th_pc u1) (n := 7302250 - th_pq u1) (by omega) (by omega) ?_
  exact lv_pop hx hb d h1 (kk u1 H1 locs1 ⟨h2, h3, b1, hS, h6⟩)
theorem lw_f1 (a : Nat) : 600000 - a + 0 ≤ room_1.cells := Nat.sub_le 600000 a
theorem lw_f2 (a : Nat) : 7302250 - a + 0 ≤ room_1.slots := Nat.sub_le 7302250 a
theorem lw_f3 {u : Nat} (h : u = 10 ∨ u = 12 ∨ u = 14) : 600000 - th_pc u + th_pc u ≤ room_1.cells := by
  have := lw_pcb h
  show 600000 - th_pc u + th_pc u ≤ 600000
  omega
theorem lw_f4 {u : Nat} (h : u = 10 ∨ u = 12 ∨ u = 14) : 7302250 - th_pq u + th_pq u ≤ room_1.slots := by
  have := lw_pcb h
  show 7302250 - th_pq u + th_pq u ≤ 7302250
  omega
end LW2
