section LW2
variable {p : Program} {l : Launch} {e : Env} {R : Room} {s : State} {m : MethodId} {args : Array Value} {below : List Frame} {meth : Method} {c : Code} {H H0 H1 : Heap} {locs : List Loc} {cells slots : Nat} {Q : State → Prop}
variable {cc : ByteArray} {pc : Nat} {ls : Array Slot} {rest : List Value} {G : th_G} {Γ Γ0 Γ1 : th_Ga}
/-- what the law's loop stands on -/
def lw_E (p : Program) (s : State) (m : MethodId) (c : Code) (b L : Nat) (xs : Nat → Int32) (G : th_G) (Γ : th_Ga) (ax am : Nat) : Prop := th_C p s m #[Value.ref b] c cL_law 4 RL G ∧ G.2.2 = s.heap.size ∧ th_Z G s s.heap ∧ va_X b L xs s s.heap ∧ b < s.heap.size ∧ Γ ax = (42, 0) ∧ Γ am = (46, 0) ∧ ∀ a a1 o o1 : Nat, Γ a = (20, o) → Γ a1 = (20, o1) → a = a1
/-- what it keeps -/
def lw_J (G : th_G) (Γ : th_Ga) (am : Nat) (s : State) (H : Heap) (locs : List Loc) (u : Nat) : Prop := th_I G Γ H ∧ th_RN am G Γ H ∧ th_bits G Γ H u ∧ va_S (fun q => G.2.2 ≤ q) s.heap H locs
theorem lw_hA {b L ax am : Nat} {xs : Nat → Int32} (hE : lw_E p s m c b L xs G Γ ax am) : ¬ (fun q : Nat => G.2.2 ≤ q) b := by
  show ¬ G.2.2 ≤ b
  rw [hE.2.1]
  exact Nat.not_le.mpr hE.2.2.2.2.1
/-- script[i + k] -/
theorem lw_ld {b L ax am n kn pc1 pc2 pc3 pc4 pc' : Nat} {xs : Nat → Int32} (hE : lw_E p s m c b L xs G Γ ax am) (hS : va_S (fun q => G.2.2 ≤ q) s.heap H locs) (hl : lv_has ls 4 [(3, .int (nI n)), (2, .ref am), (1, .ref ax), (0, .ref b)]) (hn : n + 6 ≤ L) (hL : L ≤ 384) {k : Int} (d0 : decode cL_law pc = .ok (.aload_n 0, 1)) (h1 : pc + 1 = pc1) (d1 : decode cL_law pc1 = .ok (.iload_n 3, 1)) (h2 : pc1 + 1 = pc2) (d2 : decode cL_law pc2 = .ok (.iconst k, 1)) (hk : Int32.ofInt k = nI kn) (hk5 : kn ≤ 5) (h3 : pc2 + 1 = pc3) (d3 : decode cL_law pc3 = .ok (.iadd, 1)) (h4 : pc3 + 1 = pc4) (d4 : decode cL_law pc4 = .ok (.iaload, 1)) (h5 : pc4 + 1 = pc')
    (kk : W p l e R s m #[Value.ref b] below meth c H locs cells slots Q (F0 m pc' ls (.int (xs (n + kn)) :: rest))) : W p l e R s m #[Value.ref b] below meth c H locs cells slots Q (F0 m pc ls rest) := by
  subst h1 h2 h3 h4 h5
  have hx := hE.1.1
  have hb := hE.1.2.1
  refine lv_aload_n hx hb d0 rfl (lv_at hl 3 rfl) ?_
  refine lv_iload_n hx hb d1 rfl (lv_at hl 0 rfl) ?_
  refine lv_iconst hx hb d2 hk ?_
  refine lv_iadd hx hb d3 ?_
  rw [nI_add]
  refine va_sld hx hb hE.2.2.2.1 hE.2.2.2.2.1 (lw_hA hE) hS (vp_in_nI (by omega) (by omega)) d4 ?_
  rw [nI_clamp (by omega)]
  exact kk
theorem lw_call {post : Option Value → Heap → Prop} {a : Array Value} {st0 : List Value} {u am k pc' : Nat} {P : Value → Heap → Prop} (hJ : lw_J G Γ am s H locs u) (hr : va_Run p l e R s m args below meth c H locs cells slots 0 0 (F0 m pc ls st0) rest (th_Q post G a) (fun q => G.2.2 ≤ q)) (hp : ∀ (v : Option Value) (H1 : Heap), post v H1 → ∃ w : Value, v = some w ∧ w.category = k ∧ th_I G Γ H1 ∧ th_RN am G Γ H1 ∧ th_bits G Γ H1 u ∧ P w H1) (h3 : pc + 3 = pc')
    (kk : ∀ (w : Value) (H1 : Heap) (locs1 : List Loc), w.category = k → lw_J G Γ am s H1 locs1 u → P w H1 → W p l e R s m args below meth c H1 locs1 cells slots Q (F0 m pc' ls (w :: rest))) : W p l e R s m args below meth c H locs cells slots Q (F0 m pc ls st0) := by
  subst h3
  refine th_call hr hJ.2.2.2 (fun v H1 locs1 h hz hS => ?_)
  obtain ⟨w, rfl, h1, h2, h3, h4, h5⟩ := hp v H1 h
  exact kk w H1 locs1 h1 ⟨h2, h3, h4, hS⟩ h5
/-- a call that may let the memo grow -/
theorem lw_callb {post : Option Value → Heap → Prop} {a : Array Value} {st0 : List Value} {u am k pc' : Nat} {P : Value → Heap → Prop} (hJ : lw_J G Γ am s H locs u) (hr : va_Run p l e R s m args below meth c H locs (600000 - th_pc u) (7302250 - th_pq u) (th_pc u) (th_pq u) (F0 m pc ls st0) rest (th_Q post G a) (fun q => G.2.2 ≤ q)) (hp : ∀ (v : Option Value) (H1 : Heap), post v H1 → ∃ w : Value, v = some w ∧ w.category = k ∧ th_I G Γ H1 ∧ th_RN am G Γ H1 ∧ th_bp G Γ H H1 u ∧ P w H1) (h3 : pc + 3 = pc')
    (kk : ∀ (u1 : Nat) (w : Value) (H1 : Heap) (locs1 : List Loc), w.category = k → lw_J G Γ am s H1 locs1 u1 → P w H1 → W p l e R s m args below meth c H1 locs1 (600000 - th_pc u1) (7302250 - th_pq u1) Q (F0 m pc' ls (w :: rest))) : W p l e R s m args below meth c H locs (600000 - th_pc u) (7302250 - th_pq u) Q (F0 m pc ls st0) := by
  subst h3
  refine W.count (fun hc1 hc2 => ?_)
  have h8 := lw_pcb hJ.2.2.1.1
  refine th_call hr hJ.2.2.2 (fun v H1 locs1 h hz hS => ?_)
  obtain ⟨w, rfl, h1, h2, h3, ⟨u1, b1, b2, b3, b4, b5⟩, h6⟩ := hp v H1 h
  have h9 := lw_pcb b1.1
  refine W.tight (k := 600000 - th_pc u1) (n := 7302250 - th_pq u1) (by omega) (by omega) ?_
  exact kk u1 w H1 locs1 h1 ⟨h2, h3, b1, hS⟩ h6
theorem lw_f1 (a : Nat) : 600000 - a + 0 ≤ room_1.cells := Nat.sub_le 600000 a
theorem lw_f2 (a : Nat) : 7302250 - a + 0 ≤ room_1.slots := Nat.sub_le 7302250 a
theorem lw_f3 {u : Nat} (h : u = 10 ∨ u = 12 ∨ u = 14) : 600000 - th_pc u + th_pc u ≤ room_1.cells := by
  have := lw_pcb h
  show 600000 - th_pc u + th_pc u ≤ 600000
  omega
theorem lw_f4 {u : Nat} (h : u = 10 ∨ u = 12 ∨ u = 14) : 7302250 - th_pq u + th_pq u ≤ room_1.slots := by
  have := lw_pcb h
  show 7302250 - th_pq u + th_pq u ≤ 7302250
  omega
end LW2
