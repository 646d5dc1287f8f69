section TQ
variable {p : Program} {l : Launch} {e : Env} {R : Room} {s : State} {m : MethodId} {args : Array Value} {below : List Frame} {meth : Method} {c : Code} {H H0 H1 : Heap} {locs : List Loc} {cells slots : Nat} {Q : State → Prop}
variable {cc : ByteArray} {pc : Nat} {ls : Array Slot} {rest : List Value} {G : th_G} {Γ Γ0 Γ1 : th_Ga} {a0 : Nat}
theorem tc_get {nL : Nat} {own : String} (hC : th_C p s m args c cc nL own G) {k : Nat} {C : String} {T : u_T} {N : Nat} {ty : Nat → FieldType} (hcf : th_CF k C T N ty) {a j index : Nat} {V : Nat → Value} {v : Value} (ho : th_OB G Γ H a k N V) (hj : j < N) (hv : V j = v)
    (hl : Cond.fieldLink own index C (T j).2.1 (T j).2.2.1 ∈ th_tb) (hdg : decode cc pc = .ok (.getfield index, 3))
    (kk : W p l e R s m args below meth c H locs cells slots Q (F0 m (pc + 3) ls (v :: rest))) : W p l e R s m args below meth c H locs cells slots Q (F0 m pc ls (.ref a :: rest)) := by
  subst hv
  obtain ⟨hx, hb, -, hown, hts, hK, -⟩ := hC
  obtain ⟨hc, hin, hty, hnm, hdc⟩ := hcf
  obtain ⟨-, cell, q1, q2, q3, q4⟩ := ho
  obtain ⟨hS, hfc, kC, hkC, hkind⟩ := hK.1 k _ hc
  obtain ⟨cf, kf, fi, f, hi, hsl⟩ := hS j hj
  have hi' := hi
  rw [hdc j hj] at hi'
  refine W.getf hx hb hown (hts _ hl) hi' (u_facts hfc hkC (u_lays hts hin hj) hi).1 q1 (by rw [q3]; exact fun h => by cases h) (v := V j) ?_ rfl rfl hdg kk
  rw [hsl, q4 j hj]
/-- a cell without a name is stored into -/
theorem tc_Nst (hB : th_N G Γ0 Γ a0 H0 H locs) {b i : Nat} (hu : th_ro (Γ b).1 = none) (hsz : G.2.2 ≤ b) (hb : H0.size ≤ b) (z : H1.size = H.size) (oq : ∀ q, q ≠ b → H1[q]? = H[q]?) : th_N G Γ0 Γ a0 H0 H1 (locs ++ [⟨b, i⟩]) := by
  obtain ⟨hI, hS, hO, hG, hu0, hsz0, hlt0⟩ := hB
  exact ⟨tc_Iold hI hu (fun q _ hq => oq q hq), hS.put z oq hsz, fun q h1 h2 => (oq q (by omega)).trans (hO q h1 h2), hG, hu0, hsz0, hlt0⟩
theorem tc_iast {nL : Nat} {own : String} (hC : th_C p s m args c cc nL own G) (hB : th_N G Γ0 Γ a0 H0 H locs) {b N : Nat} {f : Nat → Value} (hm : th_MA G Γ H b 0 N f) (hlb : H0.size ≤ b) {i v : Int32} {x : Int} (hi : i.toInt = x) (h0 : 0 ≤ x) (h1 : x < (N : Int)) (hdg : decode cc pc = .ok (.iastore, 1))
    (kk : ∀ (H1 : Heap) (locs1 : List Loc), th_N G Γ0 Γ a0 H0 H1 locs1 → th_MA G Γ H1 b 0 N (updV f x.toNat (.int v)) → H1.size = H.size → (∀ q, q ≠ b → H1[q]? = H[q]?) → W p l e R s m args below meth c H1 locs1 cells slots Q (F0 m (pc + 1) ls rest)) : W p l e R s m args below meth c H locs cells slots Q (F0 m pc ls (.int v :: .int i :: .ref b :: rest)) := by
  have hb : i.toNatClampNeg = x.toNat := by rw [← hi]; rfl
  have hlt : x.toNat < N := by omega
  refine W.iast hC.1 hC.2.1 hm.2.2 (th_tys hC (t0 := 0) rfl N _) (fun q => by cases q) ?_ rfl rfl hdg fun H1 e1 z oq => ?_
  · rw [arrV_size, hb]
    exact ti_in (x := i) (n := N) (by omega) (by omega) |> fun z => by rw [← hb]; exact z
  · refine kk H1 _ (tc_Nst hB hm.2.1 hm.1 hlb z oq) ⟨hm.1, hm.2.1, ?_⟩ z oq
    rw [e1, hb, arrV_store]
theorem tc_bast {nL : Nat} {own : String} (hC : th_C p s m args c cc nL own G) (hB : th_N G Γ0 Γ a0 H0 H locs) {b N : Nat} {f : Nat → Value} (hm : th_MA G Γ H b 3 N f) (hlb : H0.size ≤ b) {i v : Int32} {x : Int} (hi : i.toInt = x) (h0 : 0 ≤ x) (h1 : x < (N : Int)) (hv : narrow .byte (.int v) = .int v) (hdg : decode cc pc = .ok (.bastore, 1))
    (kk : ∀ (H1 : Heap) (locs1 : List Loc), th_N G Γ0 Γ a0 H0 H1 locs1 → th_MA G Γ H1 b 3 N (updV f x.toNat (.int v)) → H1.size = H.size → (∀ q, q ≠ b → H1[q]? = H[q]?) → W p l e R s m args below meth c H1 locs1 cells slots Q (F0 m (pc + 1) ls rest)) : W p l e R s m args below meth c H locs cells slots Q (F0 m pc ls (.int v :: .int i :: .ref b :: rest)) := by
  have hb : i.toNatClampNeg = x.toNat := by rw [← hi]; rfl
  have hlt : x.toNat < N := by omega
  refine W.bast hC.1 hC.2.1 hm.2.2 (th_tys hC (t0 := 3) rfl N _) (fun q => by cases q) ?_ rfl rfl hdg fun H1 e1 z oq => ?_
  · rw [arrV_size, hb]
    exact ti_in (x := i) (n := N) (by omega) (by omega) |> fun z => by rw [← hb]; exact z
  · refine kk H1 _ (tc_Nst hB hm.2.1 hm.1 hlb z oq) ⟨hm.1, hm.2.1, ?_⟩ z oq
    rw [e1, hb, hv, arrV_store]
theorem tc_anew {nL : Nat} {own C : String} (hC : th_C p s m args c cc nL own G) (hB : th_N G Γ0 Γ a0 H0 H locs) {t index : Nat} (ht : (th_ty G.2.1)[t]? = some (G.2.1 t, .object C)) (hover : va_AO C s) (hcl : Cond.classLink own index C ∈ th_tb)
    {n : Int32} {N : Nat} (hn : n.toInt = (N : Int)) (hbytes : N * 4 ≤ 536870912) (hcells : cells + 1 ≤ R.cells) (hslots : slots + N ≤ R.slots) (hdg : decode cc pc = .ok (.anewarray index, 3))
    (kk : ∀ (b : Nat) (H1 : Heap), b = H.size → H1.size = H.size + 1 → (∀ q, q ≠ b → H1[q]? = H[q]?) → th_N G Γ0 Γ a0 H0 H1 locs → th_MA G Γ H1 b t N (fun _ => .null) → W p l e R s m args below meth c H1 locs (cells + 1) (slots + N) Q (F0 m (pc + 3) ls (.ref b :: rest))) : W p l e R s m args below meth c H locs cells slots Q (F0 m pc ls (.int n :: rest)) := by
  have hnn : n.toNatClampNeg = N := by
    show n.toInt.toNat = N
    omega
  subst hnn
  refine W.anew hC.1 hC.2.1 hC.2.2.2.1 (hC.2.2.2.2.1 _ hcl) (va_AO.use hover) rfl hdg rfl (fun q => by have := ti_lt q; have h0 : (0 : Int32).toInt = 0 := rfl; omega) hbytes hcells hslots fun cA kA comp f1 f2 f3 f4 => ?_
  generalize hH1 : H.push ({ cls := cA, slots := Array.replicate n.toNatClampNeg .null, vm := .none } : Cell) = H1
  have z1 : H1.size = H.size + 1 := by rw [← hH1, Array.size_push]
  have e1 : H1[H.size]? = some (arrV cA n.toNatClampNeg (fun _ => .null)) := by rw [← hH1, Array.getElem?_push_size, ← arrV_new]
  have o1 : ∀ q : Nat, q < H.size → H1[q]? = H[q]? := fun q hq => by rw [← hH1, Array.getElem?_push, if_neg (Nat.ne_of_lt hq)]
  have hcA : cA = G.2.1 t := by
    obtain ⟨kA', comp', g2, g3, g4, g1⟩ := (hC.2.2.2.2.2.1.2 t _ ht).2
    have e3 : comp = comp' := Option.some.inj (f4.symm.trans g4)
    subst e3
    exact Option.some.inj (f1.symm.trans g1)
  subst hcA
  have oq : ∀ q, q ≠ H.size → H1[q]? = H[q]? := fun q hq => by
    by_cases h : q < H.size
    · exact o1 q h
    · rw [Array.getElem?_eq_none (by omega), Array.getElem?_eq_none (by omega)]
  obtain ⟨hI, hS, hO, hG, hu, hsz, hlt0⟩ := hB
  have hle := hS.1
  have hun : th_ro (Γ H.size).1 = none := tc_un hI (Nat.le_refl _)
  exact kk H.size H1 rfl z1 oq ⟨tc_Iold hI hun (fun q _ hq => oq q hq), ⟨Nat.le_trans hS.1 (by omega), fun q h1 h2 => (o1 q (Nat.lt_of_lt_of_le h1 hS.1)).trans (hS.2.1 q h1 h2), hS.2.2⟩, fun q h1 h2 => (o1 q (by omega)).trans (hO q h1 h2), hG, hu, hsz, hlt0⟩ ⟨by omega, hun, e1⟩
theorem tc_aast {nL : Nat} {own C : String} (hC : th_C p s m args c cc nL own G) (hB : th_N G Γ0 Γ a0 H0 H locs) {b t N : Nat} {f : Nat → Value} (hm : th_MA G Γ H b t N f) (hlb : H0.size ≤ b) (ht : (th_ty G.2.1)[t]? = some (G.2.1 t, .object C)) {v r o k Nf : Nat} {fs : List th_sp} {T : u_T} (hv : Γ v = (r, o)) (hr : th_ro r = some (.inl (k, fs))) (hc : th_cl[k]? = some (C, T, Nf)) {i : Int32} {x : Int} (hi : i.toInt = x) (h0 : 0 ≤ x) (h1 : x < (N : Int)) (hdg : decode cc pc = .ok (.aastore, 1))
    (kk : ∀ (H1 : Heap) (locs1 : List Loc), th_N G Γ0 Γ a0 H0 H1 locs1 → th_MA G Γ H1 b t N (updV f x.toNat (.ref v)) → H1.size = H.size → (∀ q, q ≠ b → H1[q]? = H[q]?) → W p l e R s m args below meth c H1 locs1 cells slots Q (F0 m (pc + 1) ls rest)) : W p l e R s m args below meth c H locs cells slots Q (F0 m pc ls (.ref v :: .int i :: .ref b :: rest)) := by
  have hb : i.toNatClampNeg = x.toNat := by rw [← hi]; rfl
  have hlt : x.toNat < N := by omega
  have h00 : ¬ i < 0 := fun q => by have := ti_lt q; have h0 : (0 : Int32).toInt = 0 := rfl; omega
  obtain ⟨-, ⟨cellV, g1, g2, g3, -⟩, -⟩ := hB.1 v r o _ hv hr
  have hcls := (hC.2.2.2.2.2.1.1 k _ hc).2
  obtain ⟨kA, comp, k1, k2, k3, -⟩ := (hC.2.2.2.2.2.1.2 t _ ht).2
  have hcomp : comp = G.1.1 k := Option.some.inj (k3.symm.trans hcls.1)
  subst hcomp
  obtain ⟨kC, hkC, -⟩ := hcls.2
  refine W.aast hC.1 hC.2.1 hm.2.2 (fun q h => by cases h) (fun h => by cases h) k1 k2 rfl hkC ⟨h00, by show _ < (arrV _ _ _).slots.size; rw [arrV_size, hb]; exact hlt⟩ g1 (fun q h => by rw [g3] at h; cases h) (by rw [g2]; exact hkC) (by rw [g2]; exact va_assign hcls) rfl rfl hdg fun H1 e1 z oq => ?_
  refine kk H1 _ (tc_Nst hB hm.2.1 hm.1 hlb z oq) ⟨hm.1, hm.2.1, ?_⟩ z oq
  rw [e1, hb, arrV_store]
theorem tc_XY {a b : Nat} {V : Nat → Value} {cA : ClassId} (ho : th_OB G Γ H a 1 11 V) (h4 : V 4 = .ref b) (ka : H[b]? = some (arrV cA 9 (fun _ => .int 0))) : th_XY G H a := by
  obtain ⟨-, cell, q1, q2, q3, q4⟩ := ho
  intro bx by_ e1 e2 c hc hne
  have e3 : th_sl H a (G.1.2 1 4) = V 4 := th_sl_at q1 (q4 4 (by decide))
  rw [h4] at e3
  cases e3.symm.trans e2
  exact ⟨0, th_sl_at ka (arrV_read _ _ hc), by decide⟩
theorem tc_PS {b : Nat} {cA : ClassId} (ka : H[b]? = some (arrV cA 480 (fun _ => .int 0))) : th_PS H b := fun u hu c hc _ => ⟨0, th_sl_at ka (arrV_read _ _ (by omega)), by decide⟩
theorem th_new_0 (hI : th_I G Γ H) (hu : th_ro (Γ a0).1 = none) : ∀ q x o : Nat, Γ q = (x, o) → (q = a0 ∨ H.size ≤ q) → (th_ro x).isSome = true → x ∈ ([] : List Nat) := fun q x o hg hq hs => by
  have q9 : th_ro (Γ q).1 = none := by
    rcases hq with rfl | hq
    · exact hu
    · exact tc_un hI hq
  rw [hg] at q9
  rw [q9] at hs
  cases hs
theorem th_new_c {A B : List Nat} {b r : Nat} (hN : ∀ q x o : Nat, Γ q = (x, o) → (q = a0 ∨ H0.size ≤ q) → (th_ro x).isSome = true → x ∈ A) (hy : th_NY G Γ Γ1 b r B H H1) : ∀ q x o : Nat, Γ1 q = (x, o) → (q = a0 ∨ H0.size ≤ q) → (th_ro x).isSome = true → x ∈ A ++ B := fun q x o hg hq hs => by
  by_cases w : q = b ∨ H.size ≤ q
  · exact List.mem_append_right _ (hy.2.2.2.2 q x o hg w hs)
  · have := (hy.1.2.2 q (by omega) (by omega)).1
    rw [this] at hg
    exact List.mem_append_left _ (hN q x o hg hq hs)
end TQ
