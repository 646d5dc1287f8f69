section TMO
variable {p : Program} {l : Launch} {e : Env} {R : Room} {s : State} {m : MethodId} {args : Array Value} {below : List Frame} {meth : Method} {c : Code} {H H0 H1 : Heap} {locs : List Loc} {cells slots : Nat} {Q : State → Prop}
variable {cc : ByteArray} {pc : Nat} {ls : Array Slot} {rest : List Value} {G : th_G} {Γ : th_Ga} {a0 : Nat} {V : Nat → Value} {rows rows1 : List (Nat × Nat × (Nat → Value))}
/-- the reference under way: its object, and its rows, one behind the other -/
def th_MB (G : th_G) (Γ : th_Ga) (a0 : Nat) (H0 H : Heap) (locs : List Loc) (V : Nat → Value) (rows : List (Nat × Nat × (Nat → Value))) : Prop := th_N G Γ Γ a0 H0 H locs ∧ th_OB G Γ H a0 12 57 V ∧ H.size = H0.size + rows.length ∧ ∀ (i : Nat) (x : Nat × Nat × (Nat → Value)), rows[i]? = some x → H[H0.size + i]? = some (arrV (G.1.2.1 x.1) x.2.1 x.2.2)
theorem mb_new {nL : Nat} {own : String} (hC : th_C p s m args c cc nL own G) (hB : th_MB G Γ a0 H0 H locs V rows) {t k : Nat} {atype : ArrayType} {ty : FieldType} (ht : (th_ty G.1.2.1)[t]? = some (G.1.2.1 t, ty)) (hty : newarray.typeOf atype = ty) (hprim : va_RA s (G.1.2.1 t) ty = (s.vm.findClass ("[" ++ ty.toString) = some (G.1.2.1 t))) (harr : Cond.arrayClass ty ∈ th_tb)
    {n : Int32} {N : Nat} (hn : n.toInt = (N : Int)) (hbytes : N * componentBytes ty ≤ 536870912) (hcells : cells + 1 ≤ R.cells) (hslots : slots + N ≤ R.slots) (hdg : decode cc pc = .ok (.newarray atype, 2)) (hk : rows.length = k) (h1 : rows ++ [(t, N, fun _ => defaultValue ty)] = rows1)
    (kk : ∀ (H1 : Heap), th_MB G Γ a0 H0 H1 locs V rows1 → W p l e R s m args below meth c H1 locs (cells + 1) (slots + N) Q (F0 m (pc + 2) ls (.ref (H0.size + k) :: rest))) : W p l e R s m args below meth c H locs cells slots Q (F0 m pc ls (.int n :: rest)) := by
  subst hk h1
  obtain ⟨hN, ho, hz, hr⟩ := hB
  refine tc_newa hC hN ht hty hprim harr hn hbytes hcells hslots hdg (fun b H1 eb z oq hB1 k => ?_)
  rw [hz] at eb
  subst eb
  have hlt := hN.2.2.2.2.2.2
  refine kk H1 ⟨hB1, tc_OBo ho oq (by omega), by rw [z, hz, List.length_append]; rfl, fun i x hx => ?_⟩
  rcases Nat.lt_trichotomy i rows.length with w | w | w
  · rw [List.getElem?_append_left w] at hx
    rw [oq _ (by omega)]
    exact hr i x hx
  · subst w
    rw [List.getElem?_append_right (Nat.le_refl _), Nat.sub_self] at hx
    cases hx
    exact k.2.2
  · rw [List.getElem?_eq_none (by rw [List.length_append]; show rows.length + 1 ≤ i; omega)] at hx
    cases hx
theorem mb_put {nL : Nat} {C : String} (hC : th_C p s m args c cc nL C G) {T : u_T} {ty : Nat → FieldType} (hcf : th_CF 12 C T 57 ty) (hB : th_MB G Γ a0 H0 H locs V rows) {j index : Nat} {v : Value} (hj : j < 57) (hfin : (T j).2.2.2 = false) (hn : narrow (ty j) v = v) (hfit : fits (ty j) v = true)
    (hl : Cond.fieldLink C index C (T j).2.1 (T j).2.2.1 ∈ th_tb) (hdg : decode cc pc = .ok (.putfield index, 3))
    (kk : ∀ (H1 : Heap) (locs1 : List Loc), th_MB G Γ a0 H0 H1 locs1 (updV V j v) rows → W p l e R s m args below meth c H1 locs1 cells slots Q (F0 m (pc + 3) ls rest)) : W p l e R s m args below meth c H locs cells slots Q (F0 m pc ls (v :: .ref a0 :: rest)) := by
  obtain ⟨hN, ho, hz, hr⟩ := hB
  have hlt := hN.2.2.2.2.2.2
  exact tc_put hC hcf hN ho hj hfin hn hfit hl hdg (fun H1 locs1 hB1 ho z oq => kk H1 locs1 ⟨hB1, ho, z.trans hz, fun i x hx => (oq _ (by omega)).trans (hr i x hx)⟩)
theorem mb_putF {nL : Nat} {C : String} (hC : th_C p s m args c cc nL C G) {T : u_T} {ty : Nat → FieldType} (hcf : th_CF 12 C T 57 ty) (hB : th_MB G Γ a0 H0 H locs V rows) {j index : Nat} {v : Value} (hj : j < 57) (hfin : (T j).2.2.2 = true) (hin2 : meth.name = "<init>") (hn : narrow (ty j) v = v) (hfit : fits (ty j) v = true)
    (hl : Cond.fieldLink C index C (T j).2.1 (T j).2.2.1 ∈ th_tb) (hdg : decode cc pc = .ok (.putfield index, 3))
    (kk : ∀ (H1 : Heap) (locs1 : List Loc), th_MB G Γ a0 H0 H1 locs1 (updV V j v) rows → W p l e R s m args below meth c H1 locs1 cells slots Q (F0 m (pc + 3) ls rest)) : W p l e R s m args below meth c H locs cells slots Q (F0 m pc ls (v :: .ref a0 :: rest)) := by
  obtain ⟨hN, ho, hz, hr⟩ := hB
  have hlt := hN.2.2.2.2.2.2
  exact tc_putF hC hcf hN ho hj hfin hin2 hn hfit hl hdg (fun H1 locs1 hB1 ho z oq => kk H1 locs1 ⟨hB1, ho, z.trans hz, fun i x hx => (oq _ (by omega)).trans (hr i x hx)⟩)
theorem mb_MA (hI0 : th_I G Γ H0) (hB : th_MB G Γ a0 H0 H locs V rows) {k t N : Nat} {f : Nat → Value} (hk : rows[k]? = some (t, N, f)) : th_MA G Γ H (H0.size + k) t N f := by
  have h1 := hB.1.2.2.2.2.2.1
  have h2 := hB.1.2.2.2.2.2.2
  exact ⟨by omega, tc_un hI0 (Nat.le_add_right _ _), hB.2.2.2 k _ hk⟩
theorem mb_set (hB : th_MB G Γ a0 H0 H locs V rows) {k t N : Nat} {f g : Nat → Value} {locs1 : List Loc} (hk : rows[k]? = some (t, N, f)) (hB1 : th_N G Γ Γ a0 H0 H1 locs1) (hm : th_MA G Γ H1 (H0.size + k) t N g) (z : H1.size = H.size) (oq : ∀ q, q ≠ H0.size + k → H1[q]? = H[q]?) : th_MB G Γ a0 H0 H1 locs1 V (rows.set k (t, N, g)) := by
  obtain ⟨hN, ho, hz, hr⟩ := hB
  have hlt := hN.2.2.2.2.2.2
  refine ⟨hB1, tc_OBo ho oq (by omega), by rw [z, hz, List.length_set], fun j y hy => ?_⟩
  by_cases w : k = j
  · subst w
    rw [List.getElem?_set_self (List.getElem?_eq_some_iff.mp hk).1] at hy
    cases hy
    exact hm.2.2
  · rw [List.getElem?_set_ne w] at hy
    rw [oq _ (by omega)]
    exact hr j y hy
theorem mb_ist {nL : Nat} {own : String} (hC : th_C p s m args c cc nL own G) (hI0 : th_I G Γ H0) (hB : th_MB G Γ a0 H0 H locs V rows) {k N : Nat} {f : Nat → Value} (hk : rows[k]? = some (0, N, f)) {i v : Int32} {x : Nat} (hi : i.toInt = (x : Int)) (h1 : x < N) (hdg : decode cc pc = .ok (.iastore, 1)) (hr1 : rows.set k (0, N, updV f x (.int v)) = rows1)
    (kk : ∀ (H1 : Heap) (locs1 : List Loc), th_MB G Γ a0 H0 H1 locs1 V rows1 → W p l e R s m args below meth c H1 locs1 cells slots Q (F0 m (pc + 1) ls rest)) : W p l e R s m args below meth c H locs cells slots Q (F0 m pc ls (.int v :: .int i :: .ref (H0.size + k) :: rest)) := by
  subst hr1
  exact tc_iast (x := (x : Int)) hC hB.1 (mb_MA hI0 hB hk) (Nat.le_add_right _ _) hi (Int.natCast_nonneg x) (by omega) hdg (fun H1 locs1 hB1 hm z oq => kk H1 locs1 (mb_set hB hk hB1 hm z oq))
/-- the words under way: n of them stand -/
def th_MW (G : th_G) (Γ : th_Ga) (a0 : Nat) (H0 H : Heap) (locs : List Loc) (V : Nat → Value) (rows : List (Nat × Nat × (Nat → Value))) (n : Nat) : Prop := ∃ f : Nat → Value, th_MB G Γ a0 H0 H locs V (rows ++ [(3, 127, f)]) ∧ ∀ i, i < n → ∃ x : Int32, f i = .int x ∧ x.toInt = th_wl.getD i 0
theorem mb_w {nL : Nat} {own : String} (hC : th_C p s m args c cc nL own G) (hI0 : th_I G Γ H0) {n k : Nat} (hB : th_MW G Γ a0 H0 H locs V rows n) (hk : rows.length = k) {i v : Int32} (hi : i.toInt = (n : Int)) (hn : n < 127) (hv : narrow .byte (.int v) = .int v) (hw : v.toInt = th_wl.getD n 0) (hdg : decode cc pc = .ok (.bastore, 1))
    (kk : ∀ (H1 : Heap) (locs1 : List Loc), th_MW G Γ a0 H0 H1 locs1 V rows (n + 1) → W p l e R s m args below meth c H1 locs1 cells slots Q (F0 m (pc + 1) ls rest)) : W p l e R s m args below meth c H locs cells slots Q (F0 m pc ls (.int v :: .int i :: .ref (H0.size + k) :: rest)) := by
  subst hk
  obtain ⟨f, hB, hf⟩ := hB
  have hk : (rows ++ [(3, 127, f)])[rows.length]? = some (3, 127, f) := by rw [List.getElem?_append_right (Nat.le_refl _), Nat.sub_self]; rfl
  refine tc_bast (x := (n : Int)) hC hB.1 (mb_MA hI0 hB hk) (Nat.le_add_right _ _) hi (Int.natCast_nonneg n) (by omega) hv hdg (fun H1 locs1 hB1 hm z oq => kk H1 locs1 ⟨updV f n (.int v), ?_, fun j hj => ?_⟩)
  · have h := mb_set hB hk hB1 hm z oq
    rw [List.set_append_right _ _ (Nat.le_refl _), Nat.sub_self] at h
    exact h
  · by_cases w : j = n
    · subst w
      exact ⟨v, if_pos rfl, hw⟩
    · obtain ⟨x, e1, e2⟩ := hf j (by omega)
      exact ⟨x, (if_neg w).trans e1, e2⟩
/-- a word's letter: dup, its place, the letter, the store -/
theorem mb_w4 {nL : Nat} {own : String} (hC : th_C p s m args c cc nL own G) (hI0 : th_I G Γ H0) {n k n' pc1 pc2 pc3 pc' : Nat} (hB : th_MW G Γ a0 H0 H locs V rows n) (hk : rows.length = k) {x y : Int} (d0 : decode cc pc = .ok (.dup, 1)) (h1 : pc + 1 = pc1) (d1 : decode cc pc1 = .ok (.bipush x, 2)) (h2 : pc1 + 2 = pc2) (d2 : decode cc pc2 = .ok (.bipush y, 2)) (h3 : pc2 + 2 = pc3) (d3 : decode cc pc3 = .ok (.bastore, 1)) (h4 : pc3 + 1 = pc') (h5 : n + 1 = n')
    (hi : (Int8.ofInt x).toInt32.toInt = (n : Int)) (hn : n < 127) (hv : narrow .byte (.int (Int8.ofInt y).toInt32) = .int (Int8.ofInt y).toInt32) (hw : (Int8.ofInt y).toInt32.toInt = th_wl.getD n 0)
    (kk : ∀ (H1 : Heap) (locs1 : List Loc), th_MW G Γ a0 H0 H1 locs1 V rows n' → W p l e R s m args below meth c H1 locs1 cells slots Q (F0 m pc' ls (.ref (H0.size + k) :: rest))) : W p l e R s m args below meth c H locs cells slots Q (F0 m pc ls (.ref (H0.size + k) :: rest)) := by
  subst h1 h2 h3 h4 h5
  exact lv_dup hC.1 hC.2.1 d0 rfl (lv_bipush hC.1 hC.2.1 d1 rfl (lv_bipush hC.1 hC.2.1 d2 rfl (mb_w hC hI0 hB hk hi hn hv hw d3 kk)))
theorem mb_w4c {nL : Nat} {own : String} (hC : th_C p s m args c cc nL own G) (hI0 : th_I G Γ H0) {n k n' pc1 pc2 pc3 pc' : Nat} (hB : th_MW G Γ a0 H0 H locs V rows n) (hk : rows.length = k) {x y : Int} (d0 : decode cc pc = .ok (.dup, 1)) (h1 : pc + 1 = pc1) (d1 : decode cc pc1 = .ok (.iconst x, 1)) (h2 : pc1 + 1 = pc2) (d2 : decode cc pc2 = .ok (.bipush y, 2)) (h3 : pc2 + 2 = pc3) (d3 : decode cc pc3 = .ok (.bastore, 1)) (h4 : pc3 + 1 = pc') (h5 : n + 1 = n')
    (hi : (Int32.ofInt x).toInt = (n : Int)) (hn : n < 127) (hv : narrow .byte (.int (Int8.ofInt y).toInt32) = .int (Int8.ofInt y).toInt32) (hw : (Int8.ofInt y).toInt32.toInt = th_wl.getD n 0)
    (kk : ∀ (H1 : Heap) (locs1 : List Loc), th_MW G Γ a0 H0 H1 locs1 V rows n' → W p l e R s m args below meth c H1 locs1 cells slots Q (F0 m pc' ls (.ref (H0.size + k) :: rest))) : W p l e R s m args below meth c H locs cells slots Q (F0 m pc ls (.ref (H0.size + k) :: rest)) := by
  subst h1 h2 h3 h4 h5
  exact lv_dup hC.1 hC.2.1 d0 rfl (lv_iconst hC.1 hC.2.1 d1 rfl (lv_bipush hC.1 hC.2.1 d2 rfl (mb_w hC hI0 hB hk hi hn hv hw d3 kk)))
/-- the reference's names -/
def mo_Ga (Γ : th_Ga) (a0 n : Nat) : th_Ga := fun q => if q = a0 then (46, 0) else if n ≤ q ∧ q < n + 24 then (47 + (q - n), a0) else Γ q
def mo_rok (i : Nat) (x : Nat × Nat × (Nat → Value)) : Prop := ∃ (n1 n2 : Nat) (es : Nat → th_sp), th_ro (47 + i) = some (.inr (x.1, n1, n2, es)) ∧ n1 ≤ x.2.1 ∧ x.2.1 ≤ n2 ∧ ∀ (Γ : th_Ga) (a j : Nat), j < x.2.1 → th_sat Γ a (es j) (x.2.2 j)
theorem mo_Ga_a {n : Nat} : mo_Ga Γ a0 n a0 = (46, 0) := if_pos rfl
theorem mo_Ga_r {n i : Nat} (h : a0 < n) (hi : i < 24) : mo_Ga Γ a0 n (n + i) = (47 + i, a0) := by
  unfold mo_Ga
  rw [if_neg (by omega), if_pos (by omega), Nat.add_sub_cancel_left]
theorem mo_Ga_o {n q : Nat} (h1 : q ≠ a0) (h2 : ¬ (n ≤ q ∧ q < n + 24)) : mo_Ga Γ a0 n q = Γ q := by
  unfold mo_Ga
  rw [if_neg h1, if_neg h2]
/-- three kinds of cells -/
theorem mo_Ga_c {n q r o : Nat} (h : mo_Ga Γ a0 n q = (r, o)) : (q = a0 ∧ r = 46 ∧ o = 0) ∨ (q ≠ a0 ∧ n ≤ q ∧ q < n + 24 ∧ r = 47 + (q - n) ∧ o = a0) ∨ (q ≠ a0 ∧ ¬ (n ≤ q ∧ q < n + 24) ∧ Γ q = (r, o)) := by
  unfold mo_Ga at h
  by_cases e : q = a0
  · rw [if_pos e] at h
    cases h
    exact Or.inl ⟨e, rfl, rfl⟩
  · rw [if_neg e] at h
    by_cases w : n ≤ q ∧ q < n + 24
    · rw [if_pos w] at h
      cases h
      exact Or.inr (Or.inl ⟨e, w.1, w.2, rfl, rfl⟩)
    · rw [if_neg w] at h
      exact Or.inr (Or.inr ⟨e, w, h⟩)
theorem mb_I (hI0 : th_I G Γ H0) (hB : th_MB G Γ a0 H0 H locs V rows) (hlen : rows.length = 24) (hrows : ∀ (i : Nat) (x : Nat × Nat × (Nat → Value)), rows[i]? = some x → mo_rok i x)
    (hV : ∀ (j : Nat) (q : th_sp), th_f46[j]? = some q → ∀ Γ1 : th_Ga, (∀ i, i < 24 → Γ1 (H0.size + i) = (47 + i, a0)) → th_sat Γ1 a0 q (V j)) : th_I G (mo_Ga Γ a0 H0.size) H := by
  obtain ⟨⟨hI, hS, hO, -, hu, hsz, hlt⟩, ⟨-, cell, q1, q2, q3, q4⟩, hz, hr⟩ := hB
  intro a r o d hg hd
  rcases mo_Ga_c hg with ⟨e1, e2, e3⟩ | ⟨e1, e2, e3, e4, e5⟩ | ⟨e1, e2, e3⟩
  · subst e1 e2 e3
    cases ro_46.symm.trans hd
    refine ⟨hsz, ?_⟩
    have hn : ∀ j, j < 57 → th_sl H a (G.1.1.2 12 j) = V j := fun j hj => th_sl_at q1 (q4 j hj)
    refine ⟨⟨cell, q1, q2, q3, fun j hj => ?_⟩, fun j q hq => ?_⟩
    · show cell.slots[G.1.1.2 12 j]? = some (th_sl H a (G.1.1.2 12 j))
      rw [hn j hj]
      exact q4 j hj
    · have hj : j < 57 := (List.getElem?_eq_some_iff.mp hq).1
      rw [hn j hj]
      exact hV j q hq _ (fun i hi => mo_Ga_r hlt hi)
  · have hl : a - H0.size < rows.length := by omega
    have hx : rows[a - H0.size]? = some rows[a - H0.size] := List.getElem?_eq_getElem hl
    obtain ⟨n1, n2, es, h1, h2, h3, h4⟩ := hrows _ _ hx
    rw [e4, h1] at hd
    cases hd
    have hc := hr _ _ hx
    rw [show H0.size + (a - H0.size) = a by omega] at hc
    have hn : ∀ x, x < (rows[a - H0.size]).2.1 → th_sl H a x = (rows[a - H0.size]).2.2 x := fun x hx => th_sl_at hc (arrV_read _ _ hx)
    refine ⟨by omega, _, h2, h3, ?_, fun i hi => ?_⟩
    · rw [hc]
      exact congrArg some (th_arrV (fun x hx => (hn x hx).symm))
    · rw [hn i hi]
      exact h4 _ _ i hi
  · obtain ⟨g1, g2⟩ := hI a r o d e3 hd
    refine ⟨g1, th_ok_up (th_gd_all r d hd) (fun b r o h1 h2 => ?_) g2⟩
    have hb : th_ro (Γ b).1 ≠ none := fun w => by
      rw [h1] at w
      rw [w] at h2
      cases h2
    exact (mo_Ga_o (q := b) (a0 := a0) (n := H0.size) (fun w => hb (by rw [w]; exact hu)) (fun w => hb (tc_un hI0 w.1))).trans h1
theorem mb_NY (hI0 : th_I G Γ H0) (hR0 : th_RC G Γ H0) (hm0 : ¬ th_MR G Γ H0 a0) (hB : th_MB G Γ a0 H0 H locs V rows) (hI1 : th_I G (mo_Ga Γ a0 H0.size) H) : th_NY G Γ (mo_Ga Γ a0 H0.size) a0 46 [46, 47, 48, 49, 50, 51, 52, 53, 54, 55, 56, 57, 58, 59, 60, 61, 62, 63, 64, 65, 66, 67, 68, 69, 70] H0 H := by
  obtain ⟨⟨hI, hS, hO, -, hu, hsz, hlt⟩, -, hz, -⟩ := hB
  have hX : ∀ q, q < H0.size → q ≠ a0 → mo_Ga Γ a0 H0.size q = Γ q ∧ H[q]? = H0[q]? := fun q h1 h2 => ⟨mo_Ga_o h2 (by omega), hO q h1 h2⟩
  have hle : H0.size ≤ H.size := by omega
  have hun : ∀ q r o : Nat, Γ q = (r, o) → (q = a0 ∨ H0.size ≤ q) → th_ro r = none := fun q r o h1 h2 => by
    have : th_ro (Γ q).1 = none := by
      rcases h2 with h2 | h2
      · rw [h2]; exact hu
      · exact tc_un hI0 h2
    rw [h1] at this
    exact this
  refine ⟨⟨hI1, hle, hX⟩, th_RC_X hI0 hR0 hu hm0 hI1 hle hX (fun q r o hg hq => ?_), mo_Ga_a, fun q w => ?_, fun q x o hg hq hs => ?_⟩
  · rcases mo_Ga_c hg with ⟨e1, e2, e3⟩ | ⟨e1, e2, e3, e4, e5⟩ | ⟨e1, e2, e3⟩
    · subst e2
      exact ⟨fun w => absurd w (by decide), fun w => absurd w (by decide), by decide⟩
    · exact ⟨fun w => absurd w (by omega), fun w => absurd w (by omega), by omega⟩
    · have hn := hun q r o e3 hq
      refine ⟨fun w => ?_, fun w => ?_, fun w => ?_⟩
      · subst w; cases hn
      · rcases w with w | w <;> (subst w; cases hn)
      · subst w; cases hn
  · obtain ⟨a, o, j, g, j1, j4, e⟩ := w
    rcases mo_Ga_c g with ⟨e1, e2, e3⟩ | ⟨e1, e2, e3, e4, e5⟩ | ⟨e1, e2, e3⟩
    · cases e2
    · omega
    · have hal := th_ok_lt (hI0 a 12 o _ e3 ro_12).2
      exact Or.inl ⟨a, o, j, e3, j1, j4, (th_sl_kept (hO a hal e1) _).symm.trans e⟩
  · rcases mo_Ga_c hg with ⟨e1, e2, e3⟩ | ⟨e1, e2, e3, e4, e5⟩ | ⟨e1, e2, e3⟩
    · subst e2
      decide
    · exact (show ∀ x, x < 71 → 46 ≤ x → x ∈ [46, 47, 48, 49, 50, 51, 52, 53, 54, 55, 56, 57, 58, 59, 60, 61, 62, 63, 64, 65, 66, 67, 68, 69, 70] by decide) x (by omega) (by omega)
    · rw [hun q x o e3 hq] at hs
      cases hs
theorem mo_k0 {k : Int → Int} (e72 : k 72 = -1) (e71 : k 71 = 0) (e69 : k 69 = 0) (e67 : k 67 = 8) (e68 : k 68 = 8) : mo_kg k :=
  ⟨⟨by omega, by omega, fun t t0 t1 => absurd t1 (by omega)⟩, ⟨by omega, fun c c0 c1 => absurd c1 (by omega), fun c d c0 c1 => absurd c1 (by omega)⟩, by omega, by omega, fun c c0 c1 => absurd c1 (by omega)⟩
theorem mb_RN (hB : th_MB G Γ a0 H0 H locs V rows) {Γ1 : th_Ga} (hR : th_RC G Γ1 H) {f : Nat → Value} {N : Nat} (hk : rows[1]? = some (0, N, f)) (hN : 73 ≤ N) (hh : rows[3]? = some (2, 2, fun _ => .int 0)) (v2 : V 2 = .ref (H0.size + 1)) (v4 : V 4 = .ref (H0.size + 3)) (v33 : V 33 = .int 0) (e72 : f 72 = .int (-1)) (e71 : f 71 = .int 0) (e69 : f 69 = .int 0) (e67 : f 67 = .int 8) (e68 : f 68 = .int 8) : th_RN a0 G Γ1 H := by
  obtain ⟨-, ⟨-, cell, q1, q2, q3, q4⟩, hz, hr⟩ := hB
  have hn : ∀ j, j < 57 → th_sl H a0 (G.1.1.2 12 j) = V j := fun j hj => th_sl_at q1 (q4 j hj)
  have s2 := (hn 2 (by decide)).trans v2
  have s4 := (hn 4 (by decide)).trans v4
  have s33 := (hn 33 (by decide)).trans v33
  have kx : ∀ (z : Nat) (x : Int32), z < N → f z = .int x → mo_v G H a0 2 (z : Int) = x.toInt := fun z x hz hx => mo_vat s2 ((th_sl_at (hr 1 _ hk) (arrV_read _ _ (by show ((z : Int)).toNat < N; omega))).trans (by show f ((z : Int)).toNat = _; rw [Int.toNat_natCast]; exact hx)) (Int.natCast_nonneg z)
  refine ⟨hR, mo_k0 (kx 72 _ (by omega) e72) (kx 71 _ (by omega) e71) (kx 69 _ (by omega) e69) (kx 67 _ (by omega) e67) (kx 68 _ (by omega) e68), fun q q0 q1 hq => ?_, fun r r0 r1 => ?_⟩
  · have : mo_v G H a0 4 q = (0 : Int32).toInt := mo_vat s4 (th_sl_at (hr 3 _ hh) (arrV_read _ _ (by show q.toNat < 2; omega))) q0
    rw [this] at hq
    cases hq
  · have : mo_f G H a0 33 = (0 : Int32).toInt := mo_fat s33
    rw [this] at r1
    exact absurd r1 (by have : (0 : Int32).toInt = 0 := rfl; omega)
end TMO
theorem mt_5680 : (5680 : Int32).toInt = 5680 := rfl
theorem mt_11360 : (11360 : Int32).toInt = 11360 := rfl
def mr_1 : List (Nat × Nat × (Nat → Value)) := [(0, 7, fun _ => defaultValue .int)]
def mr_2 : List (Nat × Nat × (Nat → Value)) := [(0, 7, fun _ => defaultValue .int), (0, 5680, fun _ => defaultValue .int)]
def mr_3 : List (Nat × Nat × (Nat → Value)) := [(0, 7, fun _ => defaultValue .int), (0, 5680, fun _ => defaultValue .int), (0, 11360, fun _ => defaultValue .int)]
def mr_4 : List (Nat × Nat × (Nat → Value)) := [(0, 7, fun _ => defaultValue .int), (0, 5680, fun _ => defaultValue .int), (0, 11360, fun _ => defaultValue .int), (2, 2, fun _ => defaultValue .boolean)]
def mr_5 : List (Nat × Nat × (Nat → Value)) := [(0, 7, fun _ => defaultValue .int), (0, 5680, fun _ => defaultValue .int), (0, 11360, fun _ => defaultValue .int), (2, 2, fun _ => defaultValue .boolean), (0, 58, fun _ => defaultValue .int)]
def mr_7 (f : Nat → Value) : List (Nat × Nat × (Nat → Value)) := [(0, 7, fun _ => defaultValue .int), (0, 5680, fun _ => defaultValue .int), (0, 11360, fun _ => defaultValue .int), (2, 2, fun _ => defaultValue .boolean), (0, 58, fun _ => defaultValue .int), (3, 127, f), (3, 400, fun _ => defaultValue .byte)]
def mr_8 (f : Nat → Value) : List (Nat × Nat × (Nat → Value)) := [(0, 7, fun _ => defaultValue .int), (0, 5680, fun _ => defaultValue .int), (0, 11360, fun _ => defaultValue .int), (2, 2, fun _ => defaultValue .boolean), (0, 58, fun _ => defaultValue .int), (3, 127, f), (3, 400, fun _ => defaultValue .byte), (0, 5, fun _ => defaultValue .int)]
def mr_9 (f : Nat → Value) : List (Nat × Nat × (Nat → Value)) := [(0, 7, fun _ => defaultValue .int), (0, 5680, fun _ => defaultValue .int), (0, 11360, fun _ => defaultValue .int), (2, 2, fun _ => defaultValue .boolean), (0, 58, fun _ => defaultValue .int), (3, 127, f), (3, 400, fun _ => defaultValue .byte), (0, 5, fun _ => defaultValue .int), (0, 401, fun _ => defaultValue .int)]
def mr_10 (f : Nat → Value) : List (Nat × Nat × (Nat → Value)) := [(0, 7, fun _ => defaultValue .int), (0, 5680, fun _ => defaultValue .int), (0, 11360, fun _ => defaultValue .int), (2, 2, fun _ => defaultValue .boolean), (0, 58, fun _ => defaultValue .int), (3, 127, f), (3, 400, fun _ => defaultValue .byte), (0, 5, fun _ => defaultValue .int), (0, 401, fun _ => defaultValue .int), (0, 401, fun _ => defaultValue .int)]
def mr_11 (f : Nat → Value) : List (Nat × Nat × (Nat → Value)) := [(0, 7, fun _ => defaultValue .int), (0, 5680, fun _ => defaultValue .int), (0, 11360, fun _ => defaultValue .int), (2, 2, fun _ => defaultValue .boolean), (0, 58, fun _ => defaultValue .int), (3, 127, f), (3, 400, fun _ => defaultValue .byte), (0, 5, fun _ => defaultValue .int), (0, 401, fun _ => defaultValue .int), (0, 401, fun _ => defaultValue .int), (0, 401, fun _ => defaultValue .int)]
def mr_12 (f : Nat → Value) : List (Nat × Nat × (Nat → Value)) := [(0, 7, fun _ => defaultValue .int), (0, 5680, fun _ => defaultValue .int), (0, 11360, fun _ => defaultValue .int), (2, 2, fun _ => defaultValue .boolean), (0, 58, fun _ => defaultValue .int), (3, 127, f), (3, 400, fun _ => defaultValue .byte), (0, 5, fun _ => defaultValue .int), (0, 401, fun _ => defaultValue .int), (0, 401, fun _ => defaultValue .int), (0, 401, fun _ => defaultValue .int), (0, 8, fun _ => defaultValue .int)]
def mr_13 (f : Nat → Value) : List (Nat × Nat × (Nat → Value)) := [(0, 7, fun _ => defaultValue .int), (0, 5680, fun _ => defaultValue .int), (0, 11360, fun _ => defaultValue .int), (2, 2, fun _ => defaultValue .boolean), (0, 58, fun _ => defaultValue .int), (3, 127, f), (3, 400, fun _ => defaultValue .byte), (0, 5, fun _ => defaultValue .int), (0, 401, fun _ => defaultValue .int), (0, 401, fun _ => defaultValue .int), (0, 401, fun _ => defaultValue .int), (0, 8, fun _ => defaultValue .int), (0, 12, fun _ => defaultValue .int)]
def mr_14 (f : Nat → Value) : List (Nat × Nat × (Nat → Value)) := [(0, 7, fun _ => defaultValue .int), (0, 5680, fun _ => defaultValue .int), (0, 11360, fun _ => defaultValue .int), (2, 2, fun _ => defaultValue .boolean), (0, 58, fun _ => defaultValue .int), (3, 127, f), (3, 400, fun _ => defaultValue .byte), (0, 5, fun _ => defaultValue .int), (0, 401, fun _ => defaultValue .int), (0, 401, fun _ => defaultValue .int), (0, 401, fun _ => defaultValue .int), (0, 8, fun _ => defaultValue .int), (0, 12, fun _ => defaultValue .int), (0, 9, fun _ => defaultValue .int)]
def mr_15 (f : Nat → Value) : List (Nat × Nat × (Nat → Value)) := [(0, 7, fun _ => defaultValue .int), (0, 5680, fun _ => defaultValue .int), (0, 11360, fun _ => defaultValue .int), (2, 2, fun _ => defaultValue .boolean), (0, 58, fun _ => defaultValue .int), (3, 127, f), (3, 400, fun _ => defaultValue .byte), (0, 5, fun _ => defaultValue .int), (0, 401, fun _ => defaultValue .int), (0, 401, fun _ => defaultValue .int), (0, 401, fun _ => defaultValue .int), (0, 8, fun _ => defaultValue .int), (0, 12, fun _ => defaultValue .int), (0, 9, fun _ => defaultValue .int), (0, 480, fun _ => defaultValue .int)]
def mr_16 (f : Nat → Value) : List (Nat × Nat × (Nat → Value)) := [(0, 7, fun _ => defaultValue .int), (0, 5680, fun _ => defaultValue .int), (0, 11360, fun _ => defaultValue .int), (2, 2, fun _ => defaultValue .boolean), (0, 58, fun _ => defaultValue .int), (3, 127, f), (3, 400, fun _ => defaultValue .byte), (0, 5, fun _ => defaultValue .int), (0, 401, fun _ => defaultValue .int), (0, 401, fun _ => defaultValue .int), (0, 401, fun _ => defaultValue .int), (0, 8, fun _ => defaultValue .int), (0, 12, fun _ => defaultValue .int), (0, 9, fun _ => defaultValue .int), (0, 480, fun _ => defaultValue .int), (0, 480, fun _ => defaultValue .int)]
def mr_17 (f : Nat → Value) : List (Nat × Nat × (Nat → Value)) := [(0, 7, fun _ => defaultValue .int), (0, 5680, fun _ => defaultValue .int), (0, 11360, fun _ => defaultValue .int), (2, 2, fun _ => defaultValue .boolean), (0, 58, fun _ => defaultValue .int), (3, 127, f), (3, 400, fun _ => defaultValue .byte), (0, 5, fun _ => defaultValue .int), (0, 401, fun _ => defaultValue .int), (0, 401, fun _ => defaultValue .int), (0, 401, fun _ => defaultValue .int), (0, 8, fun _ => defaultValue .int), (0, 12, fun _ => defaultValue .int), (0, 9, fun _ => defaultValue .int), (0, 480, fun _ => defaultValue .int), (0, 480, fun _ => defaultValue .int), (0, 1296, fun _ => defaultValue .int)]
def mr_18 (f : Nat → Value) : List (Nat × Nat × (Nat → Value)) := [(0, 7, fun _ => defaultValue .int), (0, 5680, fun _ => defaultValue .int), (0, 11360, fun _ => defaultValue .int), (2, 2, fun _ => defaultValue .boolean), (0, 58, fun _ => defaultValue .int), (3, 127, f), (3, 400, fun _ => defaultValue .byte), (0, 5, fun _ => defaultValue .int), (0, 401, fun _ => defaultValue .int), (0, 401, fun _ => defaultValue .int), (0, 401, fun _ => defaultValue .int), (0, 8, fun _ => defaultValue .int), (0, 12, fun _ => defaultValue .int), (0, 9, fun _ => defaultValue .int), (0, 480, fun _ => defaultValue .int), (0, 480, fun _ => defaultValue .int), (0, 1296, fun _ => defaultValue .int), (0, 9, fun _ => defaultValue .int)]
def mr_19 (f : Nat → Value) : List (Nat × Nat × (Nat → Value)) := [(0, 7, fun _ => defaultValue .int), (0, 5680, fun _ => defaultValue .int), (0, 11360, fun _ => defaultValue .int), (2, 2, fun _ => defaultValue .boolean), (0, 58, fun _ => defaultValue .int), (3, 127, f), (3, 400, fun _ => defaultValue .byte), (0, 5, fun _ => defaultValue .int), (0, 401, fun _ => defaultValue .int), (0, 401, fun _ => defaultValue .int), (0, 401, fun _ => defaultValue .int), (0, 8, fun _ => defaultValue .int), (0, 12, fun _ => defaultValue .int), (0, 9, fun _ => defaultValue .int), (0, 480, fun _ => defaultValue .int), (0, 480, fun _ => defaultValue .int), (0, 1296, fun _ => defaultValue .int), (0, 9, fun _ => defaultValue .int), (0, 9, fun _ => defaultValue .int)]
def mr_20 (f : Nat → Value) : List (Nat × Nat × (Nat → Value)) := [(0, 7, fun _ => defaultValue .int), (0, 5680, fun _ => defaultValue .int), (0, 11360, fun _ => defaultValue .int), (2, 2, fun _ => defaultValue .boolean), (0, 58, fun _ => defaultValue .int), (3, 127, f), (3, 400, fun _ => defaultValue .byte), (0, 5, fun _ => defaultValue .int), (0, 401, fun _ => defaultValue .int), (0, 401, fun _ => defaultValue .int), (0, 401, fun _ => defaultValue .int), (0, 8, fun _ => defaultValue .int), (0, 12, fun _ => defaultValue .int), (0, 9, fun _ => defaultValue .int), (0, 480, fun _ => defaultValue .int), (0, 480, fun _ => defaultValue .int), (0, 1296, fun _ => defaultValue .int), (0, 9, fun _ => defaultValue .int), (0, 9, fun _ => defaultValue .int), (0, 9, fun _ => defaultValue .int)]
def mr_21 (f : Nat → Value) : List (Nat × Nat × (Nat → Value)) := [(0, 7, fun _ => defaultValue .int), (0, 5680, fun _ => defaultValue .int), (0, 11360, fun _ => defaultValue .int), (2, 2, fun _ => defaultValue .boolean), (0, 58, fun _ => defaultValue .int), (3, 127, f), (3, 400, fun _ => defaultValue .byte), (0, 5, fun _ => defaultValue .int), (0, 401, fun _ => defaultValue .int), (0, 401, fun _ => defaultValue .int), (0, 401, fun _ => defaultValue .int), (0, 8, fun _ => defaultValue .int), (0, 12, fun _ => defaultValue .int), (0, 9, fun _ => defaultValue .int), (0, 480, fun _ => defaultValue .int), (0, 480, fun _ => defaultValue .int), (0, 1296, fun _ => defaultValue .int), (0, 9, fun _ => defaultValue .int), (0, 9, fun _ => defaultValue .int), (0, 9, fun _ => defaultValue .int), (0, 1296, fun _ => defaultValue .int)]
def mr_22 (f : Nat → Value) : List (Nat × Nat × (Nat → Value)) := [(0, 7, fun _ => defaultValue .int), (0, 5680, fun _ => defaultValue .int), (0, 11360, fun _ => defaultValue .int), (2, 2, fun _ => defaultValue .boolean), (0, 58, fun _ => defaultValue .int), (3, 127, f), (3, 400, fun _ => defaultValue .byte), (0, 5, fun _ => defaultValue .int), (0, 401, fun _ => defaultValue .int), (0, 401, fun _ => defaultValue .int), (0, 401, fun _ => defaultValue .int), (0, 8, fun _ => defaultValue .int), (0, 12, fun _ => defaultValue .int), (0, 9, fun _ => defaultValue .int), (0, 480, fun _ => defaultValue .int), (0, 480, fun _ => defaultValue .int), (0, 1296, fun _ => defaultValue .int), (0, 9, fun _ => defaultValue .int), (0, 9, fun _ => defaultValue .int), (0, 9, fun _ => defaultValue .int), (0, 1296, fun _ => defaultValue .int), (1, 21, fun _ => defaultValue .long)]
def mr_23 (f : Nat → Value) : List (Nat × Nat × (Nat → Value)) := [(0, 7, fun _ => defaultValue .int), (0, 5680, fun _ => defaultValue .int), (0, 11360, fun _ => defaultValue .int), (2, 2, fun _ => defaultValue .boolean), (0, 58, fun _ => defaultValue .int), (3, 127, f), (3, 400, fun _ => defaultValue .byte), (0, 5, fun _ => defaultValue .int), (0, 401, fun _ => defaultValue .int), (0, 401, fun _ => defaultValue .int), (0, 401, fun _ => defaultValue .int), (0, 8, fun _ => defaultValue .int), (0, 12, fun _ => defaultValue .int), (0, 9, fun _ => defaultValue .int), (0, 480, fun _ => defaultValue .int), (0, 480, fun _ => defaultValue .int), (0, 1296, fun _ => defaultValue .int), (0, 9, fun _ => defaultValue .int), (0, 9, fun _ => defaultValue .int), (0, 9, fun _ => defaultValue .int), (0, 1296, fun _ => defaultValue .int), (1, 21, fun _ => defaultValue .long), (1, 3, fun _ => defaultValue .long)]
def mr_24 (f : Nat → Value) : List (Nat × Nat × (Nat → Value)) := [(0, 7, fun _ => defaultValue .int), (0, 5680, fun _ => defaultValue .int), (0, 11360, fun _ => defaultValue .int), (2, 2, fun _ => defaultValue .boolean), (0, 58, fun _ => defaultValue .int), (3, 127, f), (3, 400, fun _ => defaultValue .byte), (0, 5, fun _ => defaultValue .int), (0, 401, fun _ => defaultValue .int), (0, 401, fun _ => defaultValue .int), (0, 401, fun _ => defaultValue .int), (0, 8, fun _ => defaultValue .int), (0, 12, fun _ => defaultValue .int), (0, 9, fun _ => defaultValue .int), (0, 480, fun _ => defaultValue .int), (0, 480, fun _ => defaultValue .int), (0, 1296, fun _ => defaultValue .int), (0, 9, fun _ => defaultValue .int), (0, 9, fun _ => defaultValue .int), (0, 9, fun _ => defaultValue .int), (0, 1296, fun _ => defaultValue .int), (1, 21, fun _ => defaultValue .long), (1, 3, fun _ => defaultValue .long), (0, 29, fun _ => defaultValue .int)]
def mk_1 : Nat → Value := (updV (fun _ => defaultValue .int) 65 (.int 1))
def mq_1 (f : Nat → Value) : List (Nat × Nat × (Nat → Value)) := [(0, 7, fun _ => defaultValue .int), (0, 5680, mk_1), (0, 11360, fun _ => defaultValue .int), (2, 2, fun _ => defaultValue .boolean), (0, 58, fun _ => defaultValue .int), (3, 127, f), (3, 400, fun _ => defaultValue .byte), (0, 5, fun _ => defaultValue .int), (0, 401, fun _ => defaultValue .int), (0, 401, fun _ => defaultValue .int), (0, 401, fun _ => defaultValue .int), (0, 8, fun _ => defaultValue .int), (0, 12, fun _ => defaultValue .int), (0, 9, fun _ => defaultValue .int), (0, 480, fun _ => defaultValue .int), (0, 480, fun _ => defaultValue .int), (0, 1296, fun _ => defaultValue .int), (0, 9, fun _ => defaultValue .int), (0, 9, fun _ => defaultValue .int), (0, 9, fun _ => defaultValue .int), (0, 1296, fun _ => defaultValue .int), (1, 21, fun _ => defaultValue .long), (1, 3, fun _ => defaultValue .long), (0, 29, fun _ => defaultValue .int)]
def mk_2 : Nat → Value := (updV (updV (fun _ => defaultValue .int) 65 (.int 1)) 67 (.int 8))
def mq_2 (f : Nat → Value) : List (Nat × Nat × (Nat → Value)) := [(0, 7, fun _ => defaultValue .int), (0, 5680, mk_2), (0, 11360, fun _ => defaultValue .int), (2, 2, fun _ => defaultValue .boolean), (0, 58, fun _ => defaultValue .int), (3, 127, f), (3, 400, fun _ => defaultValue .byte), (0, 5, fun _ => defaultValue .int), (0, 401, fun _ => defaultValue .int), (0, 401, fun _ => defaultValue .int), (0, 401, fun _ => defaultValue .int), (0, 8, fun _ => defaultValue .int), (0, 12, fun _ => defaultValue .int), (0, 9, fun _ => defaultValue .int), (0, 480, fun _ => defaultValue .int), (0, 480, fun _ => defaultValue .int), (0, 1296, fun _ => defaultValue .int), (0, 9, fun _ => defaultValue .int), (0, 9, fun _ => defaultValue .int), (0, 9, fun _ => defaultValue .int), (0, 1296, fun _ => defaultValue .int), (1, 21, fun _ => defaultValue .long), (1, 3, fun _ => defaultValue .long), (0, 29, fun _ => defaultValue .int)]
def mk_3 : Nat → Value := (updV (updV (updV (fun _ => defaultValue .int) 65 (.int 1)) 67 (.int 8)) 68 (.int 8))
def mq_3 (f : Nat → Value) : List (Nat × Nat × (Nat → Value)) := [(0, 7, fun _ => defaultValue .int), (0, 5680, mk_3), (0, 11360, fun _ => defaultValue .int), (2, 2, fun _ => defaultValue .boolean), (0, 58, fun _ => defaultValue .int), (3, 127, f), (3, 400, fun _ => defaultValue .byte), (0, 5, fun _ => defaultValue .int), (0, 401, fun _ => defaultValue .int), (0, 401, fun _ => defaultValue .int), (0, 401, fun _ => defaultValue .int), (0, 8, fun _ => defaultValue .int), (0, 12, fun _ => defaultValue .int), (0, 9, fun _ => defaultValue .int), (0, 480, fun _ => defaultValue .int), (0, 480, fun _ => defaultValue .int), (0, 1296, fun _ => defaultValue .int), (0, 9, fun _ => defaultValue .int), (0, 9, fun _ => defaultValue .int), (0, 9, fun _ => defaultValue .int), (0, 1296, fun _ => defaultValue .int), (1, 21, fun _ => defaultValue .long), (1, 3, fun _ => defaultValue .long), (0, 29, fun _ => defaultValue .int)]
def mk_4 : Nat → Value := (updV (updV (updV (updV (fun _ => defaultValue .int) 65 (.int 1)) 67 (.int 8)) 68 (.int 8)) 72 (.int (-1)))
def mq_4 (f : Nat → Value) : List (Nat × Nat × (Nat → Value)) := [(0, 7, fun _ => defaultValue .int), (0, 5680, mk_4), (0, 11360, fun _ => defaultValue .int), (2, 2, fun _ => defaultValue .boolean), (0, 58, fun _ => defaultValue .int), (3, 127, f), (3, 400, fun _ => defaultValue .byte), (0, 5, fun _ => defaultValue .int), (0, 401, fun _ => defaultValue .int), (0, 401, fun _ => defaultValue .int), (0, 401, fun _ => defaultValue .int), (0, 8, fun _ => defaultValue .int), (0, 12, fun _ => defaultValue .int), (0, 9, fun _ => defaultValue .int), (0, 480, fun _ => defaultValue .int), (0, 480, fun _ => defaultValue .int), (0, 1296, fun _ => defaultValue .int), (0, 9, fun _ => defaultValue .int), (0, 9, fun _ => defaultValue .int), (0, 9, fun _ => defaultValue .int), (0, 1296, fun _ => defaultValue .int), (1, 21, fun _ => defaultValue .long), (1, 3, fun _ => defaultValue .long), (0, 29, fun _ => defaultValue .int)]
theorem mk_0s {Γ : th_Ga} {a : Nat} (i : Nat) : th_sat Γ a (th_esk i) (.int 0) := by
  unfold th_esk; (repeat' split) <;> exact th_sI (x := 0) (by decide) (by decide)
theorem mk_4s {Γ : th_Ga} {a : Nat} (i : Nat) : th_sat Γ a (th_esk i) (mk_4 i) := by
  unfold mk_4 updV
  by_cases h1 : i = 72
  · subst h1; exact th_sI (x := -1) (by decide) (by decide)
  rw [if_neg h1]
  by_cases h2 : i = 68
  · subst h2; exact th_sI (x := 8) (by decide) (by decide)
  rw [if_neg h2]
  by_cases h3 : i = 67
  · subst h3; exact th_sI (x := 8) (by decide) (by decide)
  rw [if_neg h3]
  by_cases h4 : i = 65
  · subst h4; exact th_sI (x := 1) (by decide) (by decide)
  rw [if_neg h4]
  exact mk_0s i
theorem mq_rok {f : Nat → Value} (hw : ∀ i, i < 127 → ∃ x : Int32, f i = .int x ∧ x.toInt = th_wl.getD i 0) {i : Nat} {x : Nat × Nat × (Nat → Value)} (hx : (mq_4 f)[i]? = some x) : mo_rok i x := by
  match i, hx with
  | 0, hx => have e9 := Option.some.inj hx; subst e9; exact ⟨_, _, _, ro_47, Nat.le_refl _, Nat.le_refl _, fun Γ a j hj => th_sI (x := 0) (by decide) (by decide)⟩
  | 1, hx => have e9 := Option.some.inj hx; subst e9; exact ⟨_, _, _, ro_48, Nat.le_refl _, Nat.le_refl _, fun Γ a j hj => mk_4s j⟩
  | 2, hx => have e9 := Option.some.inj hx; subst e9; exact ⟨_, _, _, ro_49, Nat.le_refl _, Nat.le_refl _, fun Γ a j hj => mk_0s (j % 5680)⟩
  | 3, hx => have e9 := Option.some.inj hx; subst e9; exact ⟨_, _, _, ro_50, Nat.le_refl _, Nat.le_refl _, fun Γ a j hj => th_sI (x := 0) (by decide) (by decide)⟩
  | 4, hx => have e9 := Option.some.inj hx; subst e9; exact ⟨_, _, _, ro_51, Nat.le_refl _, Nat.le_refl _, fun Γ a j hj => th_sI (x := 0) (by decide) (by decide)⟩
  | 5, hx => have e9 := Option.some.inj hx; subst e9; exact ⟨_, _, _, ro_52, Nat.le_refl _, Nat.le_refl _, fun Γ a j hj => (by
    obtain ⟨x, e1, e2⟩ := hw j hj
    show th_sat Γ a (th_esw j) (f j)
    rw [e1]
    unfold th_esw
    exact th_sI (by rw [e2]; exact Int.le_refl _) (by rw [e2]; exact Int.le_refl _))⟩
  | 6, hx => have e9 := Option.some.inj hx; subst e9; exact ⟨_, _, _, ro_53, Nat.le_refl _, Nat.le_refl _, fun Γ a j hj => th_sI (x := 0) (by decide) (by decide)⟩
  | 7, hx => have e9 := Option.some.inj hx; subst e9; exact ⟨_, _, _, ro_54, Nat.le_refl _, Nat.le_refl _, fun Γ a j hj => th_sI (x := 0) (by decide) (by decide)⟩
  | 8, hx => have e9 := Option.some.inj hx; subst e9; exact ⟨_, _, _, ro_55, Nat.le_refl _, Nat.le_refl _, fun Γ a j hj => th_sI (x := 0) (by decide) (by decide)⟩
  | 9, hx => have e9 := Option.some.inj hx; subst e9; exact ⟨_, _, _, ro_56, Nat.le_refl _, Nat.le_refl _, fun Γ a j hj => th_sI (x := 0) (by decide) (by decide)⟩
  | 10, hx => have e9 := Option.some.inj hx; subst e9; exact ⟨_, _, _, ro_57, Nat.le_refl _, Nat.le_refl _, fun Γ a j hj => th_sI (x := 0) (by decide) (by decide)⟩
  | 11, hx => have e9 := Option.some.inj hx; subst e9; exact ⟨_, _, _, ro_58, Nat.le_refl _, Nat.le_refl _, fun Γ a j hj => th_sI (x := 0) (by decide) (by decide)⟩
  | 12, hx => have e9 := Option.some.inj hx; subst e9; exact ⟨_, _, _, ro_59, Nat.le_refl _, Nat.le_refl _, fun Γ a j hj => th_sI (x := 0) (by decide) (by decide)⟩
  | 13, hx => have e9 := Option.some.inj hx; subst e9; exact ⟨_, _, _, ro_60, Nat.le_refl _, Nat.le_refl _, fun Γ a j hj => th_sI (x := 0) (by decide) (by decide)⟩
  | 14, hx => have e9 := Option.some.inj hx; subst e9; exact ⟨_, _, _, ro_61, Nat.le_refl _, Nat.le_refl _, fun Γ a j hj => th_sI (x := 0) (by decide) (by decide)⟩
  | 15, hx => have e9 := Option.some.inj hx; subst e9; exact ⟨_, _, _, ro_62, Nat.le_refl _, Nat.le_refl _, fun Γ a j hj => th_sI (x := 0) (by decide) (by decide)⟩
  | 16, hx => have e9 := Option.some.inj hx; subst e9; exact ⟨_, _, _, ro_63, Nat.le_refl _, Nat.le_refl _, fun Γ a j hj => th_sI (x := 0) (by decide) (by decide)⟩
  | 17, hx => have e9 := Option.some.inj hx; subst e9; exact ⟨_, _, _, ro_64, Nat.le_refl _, Nat.le_refl _, fun Γ a j hj => th_sI (x := 0) (by decide) (by decide)⟩
  | 18, hx => have e9 := Option.some.inj hx; subst e9; exact ⟨_, _, _, ro_65, Nat.le_refl _, Nat.le_refl _, fun Γ a j hj => th_sI (x := 0) (by decide) (by decide)⟩
  | 19, hx => have e9 := Option.some.inj hx; subst e9; exact ⟨_, _, _, ro_66, Nat.le_refl _, Nat.le_refl _, fun Γ a j hj => th_sI (x := 0) (by decide) (by decide)⟩
  | 20, hx => have e9 := Option.some.inj hx; subst e9; exact ⟨_, _, _, ro_67, Nat.le_refl _, Nat.le_refl _, fun Γ a j hj => th_sI (x := 0) (by decide) (by decide)⟩
  | 21, hx => have e9 := Option.some.inj hx; subst e9; exact ⟨_, _, _, ro_68, Nat.le_refl _, Nat.le_refl _, fun Γ a j hj => th_sLa (x := 0)⟩
  | 22, hx => have e9 := Option.some.inj hx; subst e9; exact ⟨_, _, _, ro_69, Nat.le_refl _, Nat.le_refl _, fun Γ a j hj => th_sLa (x := 0)⟩
  | 23, hx => have e9 := Option.some.inj hx; subst e9; exact ⟨_, _, _, ro_70, Nat.le_refl _, Nat.le_refl _, fun Γ a j hj => th_sI (x := 0) (by decide) (by decide)⟩
  | n + 24, hx => exact absurd (show n + 24 < 24 from (List.getElem?_eq_some_iff.mp hx).1) (by omega)
