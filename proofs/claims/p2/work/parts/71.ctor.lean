section TC
variable {p : Program} {l : Launch} {e : Env} {R : Room} {s : State} {m : MethodId} {args : Array Value} {below : List Frame} {meth : Method} {c : Code} {H H0 H1 : Heap} {locs : List Loc} {cells slots : Nat} {Q : State → Prop}
variable {cc : ByteArray} {pc : Nat} {ls : Array Slot} {rest : List Value} {G : th_G} {Γ Γ0 Γ1 : th_Ga} {a0 : Nat}
/-- a constructor's run: but for its object a0, what was is as it was, named as it was; a0 has no name yet -/
def th_N (G : th_G) (Γ0 Γ : th_Ga) (a0 : Nat) (H0 H : Heap) (locs : List Loc) : Prop := th_I G Γ H ∧ va_S (fun q => G.2.2 ≤ q) H0 H locs ∧ (∀ q, q < H0.size → q ≠ a0 → H[q]? = H0[q]?) ∧ (∀ q, q < H0.size → q ≠ a0 → Γ q = Γ0 q) ∧ th_ro (Γ a0).1 = none ∧ G.2.2 ≤ a0 ∧ a0 < H0.size
/-- an object without a name -/
def th_OB (G : th_G) (Γ : th_Ga) (H : Heap) (a k N : Nat) (V : Nat → Value) : Prop := th_ro (Γ a).1 = none ∧ t_OB a (G.1.1 k) N (G.1.2 k) H V
/-- what a constructor gives: its object has a name, all that was is as it was -/
def th_NX (G : th_G) (Γ Γ1 : th_Ga) (a0 : Nat) (H H1 : Heap) : Prop := th_I G Γ1 H1 ∧ H.size ≤ H1.size ∧ ∀ q, q < H.size → q ≠ a0 → Γ1 q = Γ q ∧ H1[q]? = H[q]?
theorem tc_Iold (hI : th_I G Γ H) {b : Nat} (hb : th_ro (Γ b).1 = none) (oq : ∀ q, q < H.size → q ≠ b → H1[q]? = H[q]?) : th_I G Γ H1 := fun a r o d hg hd => by
  obtain ⟨h1, h2⟩ := hI a r o d hg hd
  refine ⟨h1, th_ok_kept h2 (oq a (th_ok_lt h2) (fun e => ?_))⟩
  subst e
  rw [hg] at hb
  rw [hd] at hb
  cases hb
theorem tc_un (hI : th_I G Γ H) {q : Nat} (hq : H.size ≤ q) : th_ro (Γ q).1 = none := by
  cases h : th_ro (Γ q).1 with
  | none => rfl
  | some d => exact absurd (th_ok_lt (hI q (Γ q).1 (Γ q).2 d rfl h).2) (by omega)
/-- a store into a final field of the object that is made -/
theorem tc_putF {nL : Nat} {C : String} (hC : th_C p s m args c cc nL C G) {k : Nat} {T : u_T} {N : Nat} {ty : Nat → FieldType} (hcf : th_CF k C T N ty) (hB : th_N G Γ0 Γ a0 H0 H locs) {j index : Nat} {V : Nat → Value} {v : Value} (ho : th_OB G Γ H a0 k N V) (hj : j < N) (hfin : (T j).2.2.2 = true) (hin2 : meth.name = "<init>") (hn : narrow (ty j) v = v) (hfit : fits (ty j) v = true)
    (hl : Cond.fieldLink C index C (T j).2.1 (T j).2.2.1 ∈ th_tb) (hdg : decode cc pc = .ok (.putfield index, 3))
    (kk : ∀ (H1 : Heap) (locs1 : List Loc), th_N G Γ0 Γ a0 H0 H1 locs1 → th_OB G Γ H1 a0 k N (updV V j v) → H1.size = H.size → (∀ q, q ≠ a0 → H1[q]? = H[q]?) → W p l e R s m args below meth c H1 locs1 cells slots Q (F0 m (pc + 3) ls rest)) : W p l e R s m args below meth c H locs cells slots Q (F0 m pc ls (v :: .ref a0 :: rest)) := by
  have hap := th_apart hC hcf
  obtain ⟨hx, hb, -, hown, hts, hK, -⟩ := hC
  obtain ⟨hc, hin, hty, hnm, hdc⟩ := hcf
  obtain ⟨hI, hS0, hO, hG, hu, hsz, hlt0⟩ := hB
  obtain ⟨hu1, cell, q1, q2, q3, q4⟩ := ho
  obtain ⟨hS, hfc, kC, hkC, hkind⟩ := hK.1 k _ hc
  obtain ⟨cf, kf, fi, f, hi, hsl⟩ := hS j hj
  have hi' := hi
  rw [hdc j hj] at hi'
  have hlay := hts _ (hin _ (u_in_lay hj))
  unfold u_lay at hlay
  rw [if_pos hfin] at hlay
  have hst := (u_facts hfc hkC (u_lays hts hin hj) hi).1
  have hcf' : m.cls = cf := by
    obtain ⟨_, _, c', _, _, _, -, -, hf', -, -, -, hown2, -⟩ := Cond.laysFinal_spec hlay
    have e1 : c' = cf := by have := hi.symm.trans hf'; simp at this; exact this.1.symm
    rw [hdc j hj] at hown2
    rw [← e1]; exact Option.some.inj (hown.symm.trans hown2)
  have h6 := u_fits hfc hkC hkind (Or.inr hlay) hi (hty j hj) hn hfit
  have hlt : f.slot < cell.slots.size := by rw [hsl]; exact k2_hasslot (q4 j hj)
  refine W.putFinK hx hb hown (hts _ hl) hi' hst hcf' hin2 (by rw [q2]; exact h6) q1 q3 hlt rfl rfl hdg fun H' e1 e2 e3 => ?_
  rw [hsl] at e1 ⊢
  exact kk H' _ ⟨tc_Iold hI hu (fun q _ hq => e3 q hq), hS0.put e2 e3 hsz, fun q h1 h2 => (e3 q h2).trans (hO q h1 h2), hG, hu, hsz, hlt0⟩ ⟨hu1, _, e1, q2, q3, t_set q4 hap hj v⟩ e2 e3
/-- the same, into a field that isn't final -/
theorem tc_put {nL : Nat} {C : String} (hC : th_C p s m args c cc nL C G) {k : Nat} {T : u_T} {N : Nat} {ty : Nat → FieldType} (hcf : th_CF k C T N ty) (hB : th_N G Γ0 Γ a0 H0 H locs) {j index : Nat} {V : Nat → Value} {v : Value} (ho : th_OB G Γ H a0 k N V) (hj : j < N) (hfin : (T j).2.2.2 = false) (hn : narrow (ty j) v = v) (hfit : fits (ty j) v = true)
    (hl : Cond.fieldLink C index C (T j).2.1 (T j).2.2.1 ∈ th_tb) (hdg : decode cc pc = .ok (.putfield index, 3))
    (kk : ∀ (H1 : Heap) (locs1 : List Loc), th_N G Γ0 Γ a0 H0 H1 locs1 → th_OB G Γ H1 a0 k N (updV V j v) → H1.size = H.size → (∀ q, q ≠ a0 → H1[q]? = H[q]?) → W p l e R s m args below meth c H1 locs1 cells slots Q (F0 m (pc + 3) ls rest)) : W p l e R s m args below meth c H locs cells slots Q (F0 m pc ls (v :: .ref a0 :: rest)) := by
  have hap := th_apart hC hcf
  obtain ⟨hx, hb, -, hown, hts, hK, -⟩ := hC
  obtain ⟨hc, hin, hty, hnm, hdc⟩ := hcf
  obtain ⟨hI, hS0, hO, hG, hu, hsz, hlt0⟩ := hB
  obtain ⟨hu1, cell, q1, q2, q3, q4⟩ := ho
  obtain ⟨hS, hfc, kC, hkC, hkind⟩ := hK.1 k _ hc
  obtain ⟨cf, kf, fi, f, hi, hsl⟩ := hS j hj
  have hi' := hi
  rw [hdc j hj] at hi'
  have hlay := hts _ (hin _ (u_in_lay hj))
  unfold u_lay at hlay
  rw [if_neg (by rw [hfin]; decide)] at hlay
  have hst := (u_facts hfc hkC (u_lays hts hin hj) hi).1
  have h6 := u_store hfc hkC hkind hlay hi (hty j hj) hn hfit
  have hlt : f.slot < cell.slots.size := by rw [hsl]; exact k2_hasslot (q4 j hj)
  refine W.putK hx hb (f := f) ⟨hown, hts _ hl, ⟨_, _, _, hi'⟩, hst⟩ (by rw [q2]; exact h6) q1 q3 hlt rfl rfl hdg fun H' e1 e2 e3 => ?_
  rw [hsl] at e1 ⊢
  exact kk H' _ ⟨tc_Iold hI hu (fun q _ hq => e3 q hq), hS0.put e2 e3 hsz, fun q h1 h2 => (e3 q h2).trans (hO q h1 h2), hG, hu, hsz, hlt0⟩ ⟨hu1, _, e1, q2, q3, t_set q4 hap hj v⟩ e2 e3
theorem tc_newa {nL : Nat} {own : String} (hC : th_C p s m args c cc nL own G) (hB : th_N G Γ0 Γ a0 H0 H locs) {t : Nat} {atype : ArrayType} {ty : FieldType} (ht : (th_ty G.2.1)[t]? = some (G.2.1 t, ty)) (hty : newarray.typeOf atype = ty) (hprim : va_RA s (G.2.1 t) ty = (s.vm.findClass ("[" ++ ty.toString) = some (G.2.1 t))) (harr : Cond.arrayClass ty ∈ th_tb)
    {n : Int32} {N : Nat} (hn : n.toInt = (N : Int)) (hbytes : N * componentBytes ty ≤ 536870912) (hcells : cells + 1 ≤ R.cells) (hslots : slots + N ≤ R.slots) (hdg : decode cc pc = .ok (.newarray atype, 2))
    (kk : ∀ (b : Nat) (H1 : Heap), b = H.size → H1.size = H.size + 1 → (∀ q, q ≠ b → H1[q]? = H[q]?) → th_N G Γ0 Γ a0 H0 H1 locs → th_MA G Γ H1 b t N (fun _ => defaultValue ty) → W p l e R s m args below meth c H1 locs (cells + 1) (slots + N) Q (F0 m (pc + 2) ls (.ref b :: rest))) : W p l e R s m args below meth c H locs cells slots Q (F0 m pc ls (.int n :: rest)) := by
  subst hty
  have hnn : n.toNatClampNeg = N := by
    show n.toInt.toNat = N
    omega
  refine va_newaK hC.1 hC.2.1 (hC.2.2.2.2.1 _ harr) rfl hdg rfl (fun q => by have := ti_lt q; have h0 : (0 : Int32).toInt = 0 := rfl; omega) hnn hbytes hcells hslots rfl fun H1 cA e1 z1 o1 hAr hNm => ?_
  have hcA : cA = G.2.1 t := by
    have h9 := (hC.2.2.2.2.2.1.2 t _ ht).2
    rw [hprim] at h9
    exact Option.some.inj (hNm.symm.trans h9)
  subst hcA
  have oq : ∀ q, q ≠ H.size → H1[q]? = H[q]? := fun q hq => by
    by_cases h : q < H.size
    · exact o1 q h
    · rw [Array.getElem?_eq_none (by omega), Array.getElem?_eq_none (by omega)]
  obtain ⟨hI, hS, hO, hG, hu, hsz, hlt0⟩ := hB
  have hle := hS.1
  have hun : th_ro (Γ H.size).1 = none := tc_un hI (Nat.le_refl _)
  exact kk H.size H1 rfl z1 oq ⟨tc_Iold hI hun (fun q _ hq => oq q hq), ⟨Nat.le_trans hS.1 (by omega), fun q h1 h2 => (o1 q (Nat.lt_of_lt_of_le h1 hS.1)).trans (hS.2.1 q h1 h2), hS.2.2⟩, fun q h1 h2 => (o1 q (by omega)).trans (hO q h1 h2), hG, hu, hsz, hlt0⟩ ⟨by omega, hun, e1⟩
theorem tc_new {nL : Nat} {own C : String} (hC : th_C p s m args c cc nL own G) {k : Nat} {T : u_T} {N : Nat} {ty : Nat → FieldType} (hcf : th_CF k C T N ty) (hB : th_N G Γ0 Γ a0 H0 H locs) {index : Nat} (hcl : Cond.classLink own index C ∈ th_tb) (hinst : Cond.instantiable C N ∈ th_tb) (hini : Cond.initialized C ∈ th_tb) (hcells : cells + 1 ≤ R.cells) (hslots : slots + N ≤ R.slots) (hdg : decode cc pc = .ok (.new index, 3))
    (kk : ∀ (b : Nat) (H1 : Heap), b = H.size → H1.size = H.size + 1 → (∀ q, q ≠ b → H1[q]? = H[q]?) → th_N G Γ0 Γ a0 H0 H1 locs → th_OB G Γ H1 b k N (fun j => defaultValue (ty j)) → W p l e R s m args below meth c H1 locs (cells + 1) (slots + N) Q (F0 m (pc + 3) ls (.ref b :: rest))) : W p l e R s m args below meth c H locs cells slots Q (F0 m pc ls rest) := by
  obtain ⟨hx, hb, -, hown, hts, hK, -⟩ := hC
  obtain ⟨hc, hin, hty, hnm, hdc⟩ := hcf
  obtain ⟨hI, hS, hO, hG, hu, hsz, hlt0⟩ := hB
  have hKn := hK.1 k _ hc
  refine W.newcK hx hb hown (hts _ hcl) (hts _ hinst) (hts _ hini) rfl hdg hcells hslots hKn.2.1 rfl fun H1 kC hkC e1 z1 o1 => ?_
  have oq : ∀ q, q ≠ H.size → H1[q]? = H[q]? := fun q hq => by
    by_cases h : q < H.size
    · exact o1 q h
    · rw [Array.getElem?_eq_none (by omega), Array.getElem?_eq_none (by omega)]
  have hle := hS.1
  have hun : th_ro (Γ H.size).1 = none := tc_un hI (Nat.le_refl _)
  exact kk H.size H1 rfl z1 oq ⟨tc_Iold hI hun (fun q _ hq => oq q hq), ⟨Nat.le_trans hS.1 (by omega), fun q h1 h2 => (o1 q (Nat.lt_of_lt_of_le h1 hS.1)).trans (hS.2.1 q h1 h2), hS.2.2⟩, fun q h1 h2 => (o1 q (by omega)).trans (hO q h1 h2), hG, hu, hsz, hlt0⟩ ⟨hun, u_born ty hts hin hKn hkC e1 hty⟩
end TC
