theorem wb_tb (n : Nat) : (lN n).toBitVec = BitVec.ofNat 64 n := rfl
theorem wb_inj {a b : Int64} (h : a.toBitVec = b.toBitVec) : a = b := Int64.toBitVec_inj.mp h
theorem wb_tn {n : Nat} (h : n < 2 ^ 64) : (lN n).toBitVec.toNat = n := by rw [wb_tb, BitVec.toNat_ofNat, Nat.mod_eq_of_lt h]
theorem wb_of (x : Int64) : ∃ n, n < 2 ^ 64 ∧ x = lN n := ⟨x.toBitVec.toNat, x.toBitVec.isLt, wb_inj (by rw [wb_tb]; simp)⟩
theorem wb_of32 (x : Int32) : ∃ n, n < 2 ^ 32 ∧ x = nI n := ⟨x.toBitVec.toNat, x.toBitVec.isLt, Int32.toBitVec_inj.mp (by show _ = BitVec.ofNat 32 _; simp)⟩
theorem wb_c : ∀ k, k < 64 → ((nI k).toInt64 &&& 63) = lN k := by decide +kernel
theorem wb_cu : ∀ k, k < 64 → ((nI k).toInt64.toUInt64 &&& Int64.toUInt64 63) = UInt64.ofNat k := by decide +kernel
theorem wb_sm : ∀ k, k < 64 → (BitVec.ofNat 64 k).smod 64 = BitVec.ofNat 64 k := by decide +kernel
theorem wb_pw {a b : Nat} (h : a ≤ b) : 2 ^ b = 2 ^ a * 2 ^ (b - a) := by rw [← Nat.pow_add]; congr 1; omega
theorem wb_lt2 {a b : Nat} (h : a < b) : 2 ^ a < 2 ^ b := Nat.pow_lt_pow_right (by decide) h
theorem wb_mod (n : Nat) : lN n = lN (n % 2 ^ 64) := wb_inj (by rw [wb_tb, wb_tb]; apply BitVec.eq_of_toNat_eq; rw [BitVec.toNat_ofNat, BitVec.toNat_ofNat, Nat.mod_mod])
theorem wb_shr {n k : Nat} (hn : n < 2 ^ 64) (hk : k < 64) : ((lN n).toUInt64 >>> ((nI k).toInt64.toUInt64 &&& Int64.toUInt64 63)).toInt64 = lN (n / 2 ^ k) := by
  rw [wb_cu k hk]
  apply wb_inj
  apply BitVec.eq_of_toNat_eq
  show ((lN n).toUInt64 >>> UInt64.ofNat k).toNat = (BitVec.ofNat 64 _).toNat
  have h1 : (UInt64.ofNat k).toNat = k := by
    show (BitVec.ofNat 64 k).toNat = k
    rw [BitVec.toNat_ofNat, Nat.mod_eq_of_lt (by omega)]
  have h2 : (lN n).toUInt64.toNat = n := wb_tn hn
  rw [UInt64.toNat_shiftRight, h1, h2, Nat.mod_eq_of_lt hk, Nat.shiftRight_eq_div_pow, BitVec.toNat_ofNat, Nat.mod_eq_of_lt (Nat.lt_of_le_of_lt (Nat.div_le_self _ _) hn)]
theorem wb_shl (n : Nat) {k : Nat} (hk : k < 64) : lN n <<< ((nI k).toInt64 &&& 63) = lN (n * 2 ^ k) := by
  rw [wb_c k hk]
  apply wb_inj
  rw [Int64.toBitVec_shiftLeft, wb_tb, wb_tb, wb_tb, wb_sm k hk]
  apply BitVec.eq_of_toNat_eq
  rw [BitVec.shiftLeft_eq', BitVec.toNat_shiftLeft, BitVec.toNat_ofNat, BitVec.toNat_ofNat, BitVec.toNat_ofNat, Nat.mod_eq_of_lt (show k < 2 ^ 64 by omega), Nat.shiftLeft_eq, Nat.mul_mod, Nat.mod_mod, ← Nat.mul_mod]
theorem wb_and {a b : Nat} (ha : a < 2 ^ 64) (hb : b < 2 ^ 64) : lN a &&& lN b = lN (a &&& b) := by
  apply wb_inj
  rw [Int64.toBitVec_and, wb_tb, wb_tb, wb_tb]
  apply BitVec.eq_of_toNat_eq
  rw [BitVec.toNat_and, BitVec.toNat_ofNat, BitVec.toNat_ofNat, BitVec.toNat_ofNat, Nat.mod_eq_of_lt ha, Nat.mod_eq_of_lt hb, Nat.mod_eq_of_lt (Nat.and_lt_two_pow _ hb)]
theorem wb_or {a b : Nat} (ha : a < 2 ^ 64) (hb : b < 2 ^ 64) : lN a ||| lN b = lN (a ||| b) := by
  apply wb_inj
  rw [Int64.toBitVec_or, wb_tb, wb_tb, wb_tb]
  apply BitVec.eq_of_toNat_eq
  rw [BitVec.toNat_or, BitVec.toNat_ofNat, BitVec.toNat_ofNat, BitVec.toNat_ofNat, Nat.mod_eq_of_lt ha, Nat.mod_eq_of_lt hb, Nat.mod_eq_of_lt (Nat.or_lt_two_pow ha hb)]
theorem wb_mask {n k : Nat} (hn : n < 2 ^ 64) (hk : k < 64) : lN n &&& lN (2 ^ k - 1) = lN (n % 2 ^ k) := by
  rw [wb_and hn (by have := wb_lt2 hk; omega), Nat.and_two_pow_sub_one_eq_mod]
theorem wb_a1 {n : Nat} (hn : n < 2 ^ 64) : lN n &&& 1 = lN (n % 2) := wb_mask (k := 1) hn (by decide)
theorem wb_bit {n k : Nat} (hn : n < 2 ^ 64) (hk : k < 64) : ((lN n).toUInt64 >>> ((nI k).toInt64.toUInt64 &&& Int64.toUInt64 63)).toInt64 &&& 1 = lN (n / 2 ^ k % 2) := by
  rw [wb_shr hn hk, wb_a1 (Nat.lt_of_le_of_lt (Nat.div_le_self _ _) hn)]
section TM
variable {p : Program} {l : Launch} {e : Env} {R : Room} {s : State} {m : MethodId} {args : Array Value} {below : List Frame} {meth : Method} {c : Code} {H H0 H1 : Heap} {locs : List Loc} {cells slots : Nat} {Q : State → Prop}
variable {cc : ByteArray} {pc : Nat} {ls : Array Slot} {rest : List Value} {G : th_G} {Γ Γ0 : th_Ga} {L : List (Nat × Nat)}
theorem tm_B (hB : th_B G Γ Γ L H0 H locs) {b i : Nat} (hu : th_ro (Γ b).1 = none) (hsz : G.2.2 ≤ b) (z : H1.size = H.size) (oq : ∀ q, q ≠ b → H1[q]? = H[q]?) : th_B G Γ Γ L H0 H1 (locs ++ [⟨b, i⟩]) := by
  obtain ⟨hI, hS, hF⟩ := hB
  have hne : ∀ (a r o : Nat) (d : th_De), Γ a = (r, o) → th_ro r = some d → a ≠ b := fun a r o d hg hd e => by
    rw [← e, hg] at hu
    rw [hd] at hu
    cases hu
  refine ⟨fun a r o d hg hd => ⟨(hI a r o d hg hd).1, th_ok_kept (hI a r o d hg hd).2 (oq a (hne a r o d hg hd))⟩, hS.put z oq hsz, by rw [z]; exact hF.1, fun a r o d hg hd => ?_⟩
  obtain ⟨a1, a2⟩ := hF.2 a r o d hg hd
  have e := oq a (hne a r o d hg hd)
  refine ⟨(th_ln_kept e).trans a1, ?_⟩
  rcases d with ⟨k, fs⟩ | ⟨t, n1, n2, es⟩
  · exact fun x hx hf => (th_sl_kept e _).trans (a2 x hx hf)
  · exact fun hf i => (th_sl_kept e _).trans (a2 hf i)
theorem tm_alen {nL : Nat} {own : String} (hC : th_C p s m args c cc nL own G) {b t N : Nat} {f : Nat → Value} {ty : FieldType} (hm : th_MA G Γ H b t N f) (ht : (th_ty G.2.1)[t]? = some (G.2.1 t, ty)) (hN : N ≤ 2147483647) (hdg : decode cc pc = .ok (.arraylength, 1))
    (kk : ∀ x : Int32, x.toInt = (N : Int) → W p l e R s m args below meth c H locs cells slots Q (F0 m (pc + 1) ls (.int x :: rest))) : W p l e R s m args below meth c H locs cells slots Q (F0 m pc ls (.ref b :: rest)) :=
  W.alen (n := Int32.ofNat N) hC.1 hC.2.1 hm.2.2 (th_tys hC ht N f) (by rw [arrV_size] <;> rfl) rfl rfl hdg (kk _ (nI_toInt (n := N) (by omega)))
theorem tm_lald {nL : Nat} {own : String} (hC : th_C p s m args c cc nL own G) {b N : Nat} {f : Nat → Int64} (hm : th_MA G Γ H b 1 N (fun i => .long (f i))) {i : Int32} {x : Int} (hi : i.toInt = x) (h0 : 0 ≤ x) (h1 : x < (N : Int)) (hdg : decode cc pc = .ok (.laload, 1))
    (kk : ∀ v : Int64, v = f x.toNat → W p l e R s m args below meth c H locs cells slots Q (F0 m (pc + 1) ls (.long v :: rest))) : W p l e R s m args below meth c H locs cells slots Q (F0 m pc ls (.int i :: .ref b :: rest)) := by
  have hb : i.toNatClampNeg = x.toNat := by rw [← hi]; rfl
  have hlt : x.toNat < N := by omega
  refine W.lald (v := .long (f x.toNat)) hC.1 hC.2.1 hm.2.2 (th_tys hC (t0 := 1) rfl N _) (fun q => by cases q) ?_ ?_ rfl rfl hdg (kk _ rfl)
  · rw [arrV_size, hb]
    exact ti_in (x := i) (n := N) (by omega) (by omega) |> fun z => by rw [← hb]; exact z
  · rw [hb, arrV_read _ _ hlt]
theorem tm_iald {nL : Nat} {own : String} (hC : th_C p s m args c cc nL own G) {b N : Nat} {f : Nat → Int32} (hm : th_MA G Γ H b 0 N (fun i => .int (f i))) {i : Int32} {x : Int} (hi : i.toInt = x) (h0 : 0 ≤ x) (h1 : x < (N : Int)) (hdg : decode cc pc = .ok (.iaload, 1))
    (kk : ∀ v : Int32, v = f x.toNat → W p l e R s m args below meth c H locs cells slots Q (F0 m (pc + 1) ls (.int v :: rest))) : W p l e R s m args below meth c H locs cells slots Q (F0 m pc ls (.int i :: .ref b :: rest)) := by
  have hb : i.toNatClampNeg = x.toNat := by rw [← hi]; rfl
  have hlt : x.toNat < N := by omega
  refine W.iald (v := .int (f x.toNat)) hC.1 hC.2.1 hm.2.2 (th_tys hC (t0 := 0) rfl N _) (fun q => by cases q) ?_ ?_ rfl rfl hdg (kk _ rfl)
  · rw [arrV_size, hb]
    exact ti_in (x := i) (n := N) (by omega) (by omega) |> fun z => by rw [← hb]; exact z
  · rw [hb, arrV_read _ _ hlt]
theorem tm_last {nL : Nat} {own : String} (hC : th_C p s m args c cc nL own G) (hB : th_B G Γ Γ L H0 H locs) {b N : Nat} {f : Nat → Int64} (hm : th_MA G Γ H b 1 N (fun i => .long (f i))) {i : Int32} {v : Int64} {x : Int} (hi : i.toInt = x) (h0 : 0 ≤ x) (h1 : x < (N : Int)) (hdg : decode cc pc = .ok (.lastore, 1))
    (kk : ∀ (H1 : Heap) (locs1 : List Loc), th_B G Γ Γ L H0 H1 locs1 → th_MA G Γ H1 b 1 N (fun j => .long (if j = x.toNat then v else f j)) → (∀ q, q ≠ b → H1[q]? = H[q]?) → W p l e R s m args below meth c H1 locs1 cells slots Q (F0 m (pc + 1) ls rest)) : W p l e R s m args below meth c H locs cells slots Q (F0 m pc ls (.long v :: .int i :: .ref b :: rest)) := by
  have hb : i.toNatClampNeg = x.toNat := by rw [← hi]; rfl
  have hlt : x.toNat < N := by omega
  refine W.last hC.1 hC.2.1 hm.2.2 (th_tys hC (t0 := 1) rfl N _) (fun q => by cases q) ?_ rfl rfl hdg fun H1 e1 z oq => ?_
  · rw [arrV_size, hb]
    exact ti_in (x := i) (n := N) (by omega) (by omega) |> fun z => by rw [← hb]; exact z
  · refine kk H1 _ (tm_B hB hm.2.1 hm.1 z oq) ⟨hm.1, hm.2.1, ?_⟩ oq
    rw [e1, hb, arrV_store]
    congr 2
    funext j
    unfold updV
    split <;> rfl
theorem tm_iast {nL : Nat} {own : String} (hC : th_C p s m args c cc nL own G) (hB : th_B G Γ Γ L H0 H locs) {b N : Nat} {f : Nat → Int32} (hm : th_MA G Γ H b 0 N (fun i => .int (f i))) {i v : Int32} {x : Int} (hi : i.toInt = x) (h0 : 0 ≤ x) (h1 : x < (N : Int)) (hdg : decode cc pc = .ok (.iastore, 1))
    (kk : ∀ (H1 : Heap) (locs1 : List Loc), th_B G Γ Γ L H0 H1 locs1 → th_MA G Γ H1 b 0 N (fun j => .int (if j = x.toNat then v else f j)) → (∀ q, q ≠ b → H1[q]? = H[q]?) → W p l e R s m args below meth c H1 locs1 cells slots Q (F0 m (pc + 1) ls rest)) : W p l e R s m args below meth c H locs cells slots Q (F0 m pc ls (.int v :: .int i :: .ref b :: rest)) := by
  have hb : i.toNatClampNeg = x.toNat := by rw [← hi]; rfl
  have hlt : x.toNat < N := by omega
  refine W.iast hC.1 hC.2.1 hm.2.2 (th_tys hC (t0 := 0) rfl N _) (fun q => by cases q) ?_ rfl rfl hdg fun H1 e1 z oq => ?_
  · rw [arrV_size, hb]
    exact ti_in (x := i) (n := N) (by omega) (by omega) |> fun z => by rw [← hb]; exact z
  · refine kk H1 _ (tm_B hB hm.2.1 hm.1 z oq) ⟨hm.1, hm.2.1, ?_⟩ oq
    rw [e1, hb, arrV_store]
    congr 2
    funext j
    unfold updV
    split <;> rfl
theorem tm_MAo {b t N b' : Nat} {f : Nat → Value} (h : th_MA G Γ H b t N f) (oq : ∀ q, q ≠ b' → H1[q]? = H[q]?) (hne : b ≠ b') : th_MA G Γ H1 b t N f := ⟨h.1, h.2.1, (oq b hne).trans h.2.2⟩
theorem tm_MAt {b t N : Nat} {f : Nat → Value} (h : th_MA G Γ H b t N f) (hT : th_T Γ H H1) : th_MA G Γ H1 b t N f := ⟨h.1, h.2.1, (hT b h.2.1).trans h.2.2⟩
theorem tm_slo {a r o b t N : Nat} {d : th_De} {f : Nat → Value} (ha : Γ a = (r, o)) (hr : th_ro r = some d) (h : th_MA G Γ H b t N f) (oq : ∀ q, q ≠ b → H1[q]? = H[q]?) (i : Nat) : th_sl H1 a i = th_sl H a i := th_sl_kept (oq a (fun e => by have := h.2.1; rw [← e, ha] at this; rw [hr] at this; cases this)) i
/-- with a new memo the rest of the relations stands -/
theorem th_RC_me {L : List (Nat × Nat)} (hI : th_I G Γ H1) (hR : th_RC G Γ H) (hF : th_F G Γ L H H1) (hs : L.all (fun q => q.1 == 12 || !th_RCs.contains q) = true) {a o : Nat} (ha : Γ a = (12, o)) (hme : ∃ n b1 b2 b3 b4 : Nat, th_ME G Γ H1 a n b1 b2 b3 b4) : th_RC G Γ H1 := by
  have hn : ∀ {r j : Nat}, th_RCs.contains (r, j) = true → (r == 12) = false → th_in L r j = false := by
    intro r j hm hq
    cases h : th_in L r j with
    | false => rfl
    | true =>
      have h2 := List.all_eq_true.mp hs (r, j) (by simpa [th_in] using h)
      rw [hm, hq] at h2
      cases h2
  obtain ⟨r1, r2, r3, r4⟩ := hR
  refine ⟨fun a o ha => ?_, fun b o hb => ?_, fun a' o' ha' => ?_, r4⟩
  · obtain ⟨bx, m1, g1⟩ := th_fo hI ha ro_3 (j := 3) (r2 := 7) rfl
    obtain ⟨by_, m2, g2⟩ := th_fo hI ha ro_3 (j := 4) (r2 := 8) rfl
    intro bx' by' e1 e2 c hc hne
    cases m1.symm.trans e1
    cases m2.symm.trans e2
    rw [th_F_a hF g1 ro_7 (hn rfl rfl)] at hne
    rw [th_F_a hF g2 ro_8 (hn rfl rfl)]
    exact r1 a o ha bx by_ ((th_F_o hF ha ro_3 (j := 3) (by decide) (hn rfl rfl)).symm.trans m1) ((th_F_o hF ha ro_3 (j := 4) (by decide) (hn rfl rfl)).symm.trans m2) c hc hne
  · have hk : ∀ i, th_sl H1 b i = th_sl H b i := by
      rcases hb with hb | hb
      · exact th_F_a hF hb ro_18 (hn rfl rfl)
      · exact th_F_a hF hb ro_19 (hn rfl rfl)
    intro u hu c hc
    rw [hk, hk]
    exact r2 b o hb u hu c hc
  · rw [r4 a' a o' o ha' ha]
    exact hme
theorem ti_hash (n : Nat) (x : Int64) {y : Int32} (hy : y.toInt = 64 - (n : Int)) (h1 : 1 ≤ n) (h2 : n ≤ 30) : 0 ≤ ((x.toUInt64 >>> (y.toInt64.toUInt64 &&& Int64.toUInt64 63)).toInt64.toInt32).toInt ∧ ((x.toUInt64 >>> (y.toInt64.toUInt64 &&& Int64.toUInt64 63)).toInt64.toInt32).toInt < 2 ^ n := by
  obtain ⟨q, hq, rfl⟩ := wb_of x
  have hk : y = nI (64 - n) := Int32.toInt_inj.mp (by rw [hy, nI_toInt (by omega)]; omega)
  rw [hk, wb_shr hq (by omega), lN_i]
  have h3 : q / 2 ^ (64 - n) < 2 ^ n := by
    rw [Nat.div_lt_iff_lt_mul (Nat.two_pow_pos _), ← Nat.pow_add, show n + (64 - n) = 64 by omega]
    exact hq
  have h4 : 2 ^ n ≤ 2 ^ 30 := Nat.pow_le_pow_right (by decide) h2
  rw [nI_toInt (by omega)]
  have h5 : ((q / 2 ^ (64 - n) : Nat) : Int) < ((2 ^ n : Nat) : Int) := Int.ofNat_lt.mpr h3
  have e : ((2 ^ n : Nat) : Int) = 2 ^ n := by simp
  exact ⟨Int.natCast_nonneg _, by rw [← e]; exact h5⟩
end TM
section TN
variable {p : Program} {l : Launch} {e : Env} {R : Room} {s : State} {m : MethodId} {args : Array Value} {below : List Frame} {meth : Method} {c : Code} {H H0 H1 : Heap} {locs : List Loc} {cells slots : Nat} {Q : State → Prop}
variable {cc : ByteArray} {pc : Nat} {ls : Array Slot} {rest : List Value} {G : th_G} {Γ Γ0 : th_Ga} {L : List (Nat × Nat)}
/-- all slots of a heap's cells -/
def th_su (H : Heap) : Nat := (H.toList.map (fun c => c.slots.size)).sum
theorem th_su_take {l1 l2 : List Cell} (h : ∀ (i : Nat) (c : Cell), l1[i]? = some c → ∃ c' : Cell, l2[i]? = some c' ∧ c'.slots.size = c.slots.size) : (l2.map (fun c => c.slots.size)).sum = (l1.map (fun c => c.slots.size)).sum + ((l2.drop l1.length).map (fun c => c.slots.size)).sum := by
  induction l1 generalizing l2 with
  | nil => simp
  | cons a l ih =>
    obtain ⟨a', h1, h2⟩ := h 0 a rfl
    cases l2 with
    | nil => simp at h1
    | cons b l2 =>
      cases h1
      have h3 := ih (l2 := l2) (fun i c hc => h (i + 1) c hc)
      simp only [List.map_cons, List.sum_cons, List.length_cons, List.drop_succ_cons, h2]
      omega
theorem th_su_stand {T : State} (X : Stand p l e R s m args below meth c T locs cells slots) : T.heap.size ≤ s.heap.size + cells ∧ th_su T.heap = th_su s.heap + ((T.heap.toList.drop s.heap.size).map (fun c => c.slots.size)).sum ∧ ((T.heap.toList.drop s.heap.size).map (fun c => c.slots.size)).sum ≤ slots := by
  obtain ⟨-, -, h3, -, h5, h6⟩ := X.same
  refine ⟨h3, ?_, h5⟩
  have h7 := th_su_take (l1 := s.heap.toList) (l2 := T.heap.toList) (fun i c hc => by
    obtain ⟨c', g1, -, g3, -⟩ := h6 i c (by rw [← Array.getElem?_toList]; exact hc)
    exact ⟨c', by rw [Array.getElem?_toList]; exact g1, g3⟩)
  rw [Array.length_toList] at h7
  exact h7
/-- what was made is counted by what stands there -/
theorem W.tight {g : JFrame} {k n : Nat} (h1 : H.size ≤ s.heap.size + k) (h2 : th_su H ≤ th_su s.heap + n) (kk : W p l e R s m args below meth c H locs k n Q g) : W p l e R s m args below meth c H locs cells slots Q g := by
  intro T hT X
  have hs := th_su_stand X
  rw [hT] at hs
  obtain ⟨g1, g2, g3, g4, g5, g6⟩ := X.same
  refine kk T hT { X with same := ⟨g1, g2, ?_, g4, ?_, g6⟩ }
  · show T.heap.size ≤ _
    rw [hT]
    exact h1
  · show ((T.heap.toList.drop s.heap.size).map (fun c => c.slots.size)).sum ≤ n
    rw [hT]
    omega
/-- the counts may be used -/
theorem W.count {g : JFrame} (kk : H.size ≤ s.heap.size + cells → th_su H ≤ th_su s.heap + slots → W p l e R s m args below meth c H locs cells slots Q g) : W p l e R s m args below meth c H locs cells slots Q g := by
  intro T hT X
  have hs := th_su_stand X
  rw [hT] at hs
  exact kk hs.1 (by omega) T hT X
/-- a new row that nothing names yet -/
theorem tm_newa {nL : Nat} {own : String} (hC : th_C p s m args c cc nL own G) (hB : th_B G Γ Γ L H0 H locs) {t : Nat} {atype : ArrayType} {ty : FieldType} (ht : (th_ty G.2.1)[t]? = some (G.2.1 t, ty)) (hty : newarray.typeOf atype = ty) (hprim : va_RA s (G.2.1 t) ty = (s.vm.findClass ("[" ++ ty.toString) = some (G.2.1 t))) (harr : Cond.arrayClass ty ∈ th_tb) (hsz : G.2.2 ≤ H.size)
    {n : Int32} {N : Nat} (hn : n.toInt = (N : Int)) (hbytes : N * componentBytes ty ≤ 536870912) (hcells : cells + 1 ≤ R.cells) (hslots : slots + N ≤ R.slots) (hdg : decode cc pc = .ok (.newarray atype, 2))
    (kk : ∀ (b : Nat) (H1 : Heap), b = H.size → H1.size = H.size + 1 → (∀ q, q ≠ b → H1[q]? = H[q]?) → th_B G Γ Γ L H0 H1 locs → th_MA G Γ H1 b t N (fun _ => defaultValue ty) → W p l e R s m args below meth c H1 locs (cells + 1) (slots + N) Q (F0 m (pc + 2) ls (.ref b :: rest))) : W p l e R s m args below meth c H locs cells slots Q (F0 m pc ls (.int n :: rest)) := by
  subst hty
  have hnn : n.toNatClampNeg = N := by
    show n.toInt.toNat = N
    omega
  refine va_newaK hC.1 hC.2.1 (hC.2.2.2.2.1 _ harr) rfl hdg rfl (fun q => by have := ti_lt q; have h0 : (0 : Int32).toInt = 0 := rfl; omega) hnn hbytes hcells hslots rfl fun H1 cA e1 z1 o1 hAr hNm => ?_
  have hcA : cA = G.2.1 t := by
    have h9 := (hC.2.2.2.2.2.1.2 t _ ht).2
    rw [hprim] at h9
    exact Option.some.inj (hNm.symm.trans h9)
  subst hcA
  have oq : ∀ q, q ≠ H.size → H1[q]? = H[q]? := fun q hq => by
    by_cases h : q < H.size
    · exact o1 q h
    · rw [Array.getElem?_eq_none (by omega), Array.getElem?_eq_none (by omega)]
  obtain ⟨hI, hS, hF⟩ := hB
  have hlt : ∀ (a r o : Nat) (d : th_De), Γ a = (r, o) → th_ro r = some d → a < H.size := fun a r o d hg hd => th_ok_lt (hI a r o d hg hd).2
  have hun : th_ro (Γ H.size).1 = none := by
    cases hq : th_ro (Γ H.size).1 with
    | none => rfl
    | some d => exact absurd (hlt H.size (Γ H.size).1 (Γ H.size).2 d rfl hq) (Nat.lt_irrefl _)
  refine kk H.size H1 rfl z1 oq ⟨fun a r o d hg hd => ⟨(hI a r o d hg hd).1, th_ok_kept (hI a r o d hg hd).2 (o1 a (hlt a r o d hg hd))⟩, ⟨Nat.le_trans hS.1 (by omega), fun q h1 h2 => (o1 q (Nat.lt_of_lt_of_le h1 hS.1)).trans (hS.2.1 q h1 h2), hS.2.2⟩, Nat.le_trans hF.1 (by omega), fun a r o d hg hd => ?_⟩ ⟨hsz, hun, e1⟩
  obtain ⟨a1, a2⟩ := hF.2 a r o d hg hd
  have e := o1 a (hlt a r o d hg hd)
  refine ⟨(th_ln_kept e).trans a1, ?_⟩
  rcases d with ⟨k, fs⟩ | ⟨t, n1, n2, es⟩
  · exact fun x hx hf => (th_sl_kept e _).trans (a2 x hx hf)
  · exact fun hf i => (th_sl_kept e _).trans (a2 hf i)
theorem tm_lt {b t N : Nat} {f : Nat → Value} (h : th_MA G Γ H b t N f) : b < H.size := (Array.getElem?_eq_some_iff.mp h.2.2).1
theorem tm_sz {a r o : Nat} {d : th_De} (hI : th_I G Γ H) (ha : Γ a = (r, o)) (hr : th_ro r = some d) : G.2.2 ≤ H.size := Nat.le_of_lt (Nat.lt_of_le_of_lt (hI a r o d ha hr).1 (th_ok_lt (hI a r o d ha hr).2))
end TN
section TO
variable {H H0 H1 : Heap} {G : th_G} {Γ : th_Ga}
def th_FR (bs : List Nat) (H H1 : Heap) : Prop := ∀ q : Nat, q ∉ bs → H1[q]? = H[q]?
theorem th_FR_st {bs : List Nat} {b : Nat} (h : th_FR bs H0 H) (oq : ∀ q, q ≠ b → H1[q]? = H[q]?) (hb : b ∈ bs) : th_FR bs H0 H1 := fun q hq => (oq q (fun e => hq (e ▸ hb))).trans (h q hq)
theorem th_FR_c {bs cs : List Nat} (h : th_FR bs H0 H) (h1 : th_FR cs H H1) (hs : ∀ b ∈ cs, b ∈ bs) : th_FR bs H0 H1 := fun q hq => (h1 q (fun e => hq (hs q e))).trans (h q hq)
theorem th_FR4 {b c1 c2 c3 c4 : Nat} (h : th_FR [c1, c2, c3, c4] H H1) (h1 : b ≠ c1) (h2 : b ≠ c2) (h3 : b ≠ c3) (h4 : b ≠ c4) : H1[b]? = H[b]? := h b (by simp [h1, h2, h3, h4])
theorem th_FR1 {b c1 : Nat} (h : th_FR [c1] H H1) (h1 : b ≠ c1) : H1[b]? = H[b]? := h b (by simp [h1])
theorem tm_MAe {b t N : Nat} {f : Nat → Value} (h : th_MA G Γ H b t N f) (e : H1[b]? = H[b]?) : th_MA G Γ H1 b t N f := ⟨h.1, h.2.1, e.trans h.2.2⟩
theorem tm_sln {a r o b t N : Nat} {d : th_De} {f : Nat → Value} (ha : Γ a = (r, o)) (hr : th_ro r = some d) (h : th_MA G Γ H1 b t N f) (oq : ∀ q, q ≠ b → H1[q]? = H[q]?) (i : Nat) : th_sl H1 a i = th_sl H a i := th_sl_kept (oq a (fun e => by have := h.2.1; rw [← e, ha] at this; rw [hr] at this; cases this)) i
end TO
