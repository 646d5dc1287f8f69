section
set_option maxHeartbeats 4000000 in
set_option maxRecDepth 100000 in
theorem lw_loop {p : Program} {e : Env} {s : State} {m : MethodId} {below : List Frame} {meth : Method} {c : Code} {G : th_G} {Γ : th_Ga} {ax am b L : Nat} {xs : Nat → Int32} (l : Launch) (hE : lw_E p s m c b L xs G Γ ax am) (hL : L ≤ 384) (hr : meth.sig.returnType = ret) (hlocks : meth.locks = false) (hk : dv_U Γ ∧ lw_AR Γ ax ∧ Γ (ax + 78) = (27, 0) ∧ ∀ x y : Int, th_pm G x y) : ∀ (k n : Nat), n ≤ L → L < n + k → ∀ (u : Nat) (H : Heap) (locs : List Loc) (ls : Array Slot), lw_J G Γ am s H locs u → RR (lw_A ax) (am : Int) (dv G Γ H) (dv G Γ H) → ∀ t : Int, lx_rd G Γ ax t H → t + 100 * (k : Int) < 2000000000 → lv_has ls 4 [(3, .int (nI n)), (2, .ref am), (1, .ref ax), (0, .ref b)] → W p l e room_1 s m #[Value.ref b] below meth c H locs (600000 - th_pc u) (7302250 - th_pq u) (lw_Z below #[Value.ref b] s) (F0 m 18 ls []) := by
  have hx := hE.1.1
  have hb := hE.1.2.1
  have hX := hE.2.2.2.1
  have hbl := hE.2.2.2.2.1
  intro k
  induction k with
  | zero =>
    intro n hn hnk
    exact absurd hnk (by omega)
  | succ k ih =>
    intro n hn hnk u H locs ls hJ hq t hr9 ht hl
    have hS := hJ.2.2.2
    refine lv_iload_n hx hb dL_law_18 rfl (lv_at hl 0 rfl) ?_
    refine lv_aload_n hx hb dL_law_19 rfl (lv_at hl 3 rfl) ?_
    refine va_slen hx hb hX hbl (lw_hA hE) hS dL_law_20 ?_
    refine lv_bipush (v := 6) hx hb dL_law_21 (by decide) ?_
    refine tr_isub (a := (L : Int)) (b := 6) hx hb dL_law_23 (nI_toInt (by omega)) rfl (by omega) (by omega) (fun z ez => ?_)
    refine tr_icmp_gt (tgt := 1245) hx hb dL_law_24 (by decide) (nI_toInt (by omega)) ez (fun h => ?_) (fun h => ?_)
    · refine lv_iconst (v := 1) hx hb dL_law_1245 (by decide) ?_
      refine va_forget (fun q hq => by have h9 : G.1.2.2 ≤ q.base := hS.2.2 q hq; have h0 := hE.2.1; omega) ?_
      refine W.widen (k := 600000) (n := 7302250) (Nat.sub_le _ _) (Nat.sub_le _ _) ?_
      exact lw_ret hx hb hr hlocks dL_law_1246
    have h6 : n + 6 ≤ L := by omega
    have kk : ∀ (u1 : Nat) (H1 : Heap) (locs1 : List Loc), lw_J G Γ am s H1 locs1 u1 → RR (lw_A ax) (am : Int) (dv G Γ H1) (dv G Γ H1) → lx_rd G Γ ax (t + 100) H1 → W p l e room_1 s m #[Value.ref b] below meth c H1 locs1 (600000 - th_pc u1) (7302250 - th_pq u1) (lw_Z below #[Value.ref b] s) (F0 m 1239 ls []) := by
      intro u1 H1 locs1 hJ1 hq1 hr1
      refine lv_iinc (v := nI (n + 6)) (lv' := [(3, .int (nI (n + 6))), (2, .ref am), (1, .ref ax), (0, .ref b)]) hx hb dL_law_1239 hl (k := 0) rfl (nI_add n 6) (by decide) rfl (fun ls hl => ?_)
      refine lv_goto (tgt := 18) hx hb dL_law_1242 (by decide) ?_
      exact ih (n + 6) (by omega) (by omega) u1 H1 locs1 ls hJ1 hq1 (t + 100) hr1 (by omega) hl
    refine lv_aload_n hx hb dL_law_27 rfl (lv_at hl 3 rfl) ?_
    refine lv_iload_n hx hb dL_law_28 rfl (lv_at hl 0 rfl) ?_
    refine va_sld hx hb hX hbl (lw_hA hE) hS (vp_in_nI (by omega) (by omega)) dL_law_29 ?_
    refine lv_bipush (v := 63) hx hb dL_law_30 (by decide) ?_
    refine lv_iand hx hb dL_law_32 ?_
    refine lv_topi (fun x ex => ?_)
    by_cases hw : x.toInt < 0 ∨ 42 < x.toInt
    · exact lv_tableOut (tgt := 1239) hx hb dL_law_33 hw (by decide) (kk u H locs hJ hq (lx_rdm hr9 (by omega)))
    obtain ⟨k9, hk9, ek9⟩ : ∃ k : Nat, k < 43 ∧ x.toInt = (k : Int) := ⟨x.toInt.toNat, by omega, by omega⟩
    match k9, hk9, ek9 with
    | 0, _, h => exact lv_tableIn (off := 187) (tgt := 220) hx hb dL_law_33 (by rw [h]; decide) (by rw [h]; decide) (by rw [h]; rfl) (by decide) (lw_c0 l hE hL h6 hl hk hJ hq hr9 (by omega) kk)
    | 1, _, h => exact lv_tableIn (off := 230) (tgt := 263) hx hb dL_law_33 (by rw [h]; decide) (by rw [h]; decide) (by rw [h]; rfl) (by decide) (lw_c1 l hE hL h6 hl hk hJ hq hr9 (by omega) kk)
    | 2, _, h => exact lv_tableIn (off := 263) (tgt := 296) hx hb dL_law_33 (by rw [h]; decide) (by rw [h]; decide) (by rw [h]; rfl) (by decide) (lw_c2 l hE hL h6 hl hk hJ hq hr9 (by omega) kk)
    | 3, _, h => exact lv_tableIn (off := 296) (tgt := 329) hx hb dL_law_33 (by rw [h]; decide) (by rw [h]; decide) (by rw [h]; rfl) (by decide) (lw_c3 l hE hL h6 hl hk hJ hq hr9 (by omega) kk)
    | 4, _, h => exact lv_tableIn (off := 329) (tgt := 362) hx hb dL_law_33 (by rw [h]; decide) (by rw [h]; decide) (by rw [h]; rfl) (by decide) (lw_c4 l hE hL h6 hl hk hJ hq hr9 (by omega) kk)
    | 5, _, h => exact lv_tableIn (off := 382) (tgt := 415) hx hb dL_law_33 (by rw [h]; decide) (by rw [h]; decide) (by rw [h]; rfl) (by decide) (lw_c5 l hE hL h6 hl hk hJ hq hr9 (by omega) kk)
    | 6, _, h => exact lv_tableIn (off := 415) (tgt := 448) hx hb dL_law_33 (by rw [h]; decide) (by rw [h]; decide) (by rw [h]; rfl) (by decide) (lw_c6 l hE hL h6 hl hk hJ hq hr9 (by omega) kk)
    | 7, _, h => exact lv_tableIn (off := 478) (tgt := 511) hx hb dL_law_33 (by rw [h]; decide) (by rw [h]; decide) (by rw [h]; rfl) (by decide) (lw_c7 l hE hL h6 hl hk hJ hq hr9 (by omega) kk)
    | 8, _, h => exact lv_tableIn (off := 501) (tgt := 534) hx hb dL_law_33 (by rw [h]; decide) (by rw [h]; decide) (by rw [h]; rfl) (by decide) (lw_c8 l hE hL h6 hl hk hJ hq hr9 (by omega) kk)
    | 9, _, h => exact lv_tableIn (off := 514) (tgt := 547) hx hb dL_law_33 (by rw [h]; decide) (by rw [h]; decide) (by rw [h]; rfl) (by decide) (lw_c9 l hE hL h6 hl hk hJ hq hr9 (by omega) kk)
    | 10, _, h => exact lv_tableIn (off := 527) (tgt := 560) hx hb dL_law_33 (by rw [h]; decide) (by rw [h]; decide) (by rw [h]; rfl) (by decide) (lw_c10 l hE hL h6 hl hk hJ hq hr9 (by omega) kk)
    | 11, _, h => exact lv_tableIn (off := 540) (tgt := 573) hx hb dL_law_33 (by rw [h]; decide) (by rw [h]; decide) (by rw [h]; rfl) (by decide) (lw_c11 l hE hL h6 hl hk hJ hq hr9 (by omega) kk)
    | 12, _, h => exact lv_tableIn (off := 553) (tgt := 586) hx hb dL_law_33 (by rw [h]; decide) (by rw [h]; decide) (by rw [h]; rfl) (by decide) (lw_c12 l hE hL h6 hl hk hJ hq hr9 (by omega) kk)
    | 13, _, h => exact lv_tableIn (off := 566) (tgt := 599) hx hb dL_law_33 (by rw [h]; decide) (by rw [h]; decide) (by rw [h]; rfl) (by decide) (lw_c13 l hE hL h6 hl hk hJ hq hr9 (by omega) kk)
    | 14, _, h => exact lv_tableIn (off := 579) (tgt := 612) hx hb dL_law_33 (by rw [h]; decide) (by rw [h]; decide) (by rw [h]; rfl) (by decide) (lw_c14 l hE hL h6 hl hk hJ hq hr9 (by omega) kk)
    | 15, _, h => exact lv_tableIn (off := 602) (tgt := 635) hx hb dL_law_33 (by rw [h]; decide) (by rw [h]; decide) (by rw [h]; rfl) (by decide) (lw_c15 l hE hL h6 hl hk hJ hq hr9 (by omega) kk)
    | 16, _, h => exact lv_tableIn (off := 645) (tgt := 678) hx hb dL_law_33 (by rw [h]; decide) (by rw [h]; decide) (by rw [h]; rfl) (by decide) (lw_c16 l hE hL h6 hl hk hJ hq hr9 (by omega) kk)
    | 17, _, h => exact lv_tableIn (off := 668) (tgt := 701) hx hb dL_law_33 (by rw [h]; decide) (by rw [h]; decide) (by rw [h]; rfl) (by decide) (lw_c17 l hE hL h6 hl hk hJ hq hr9 (by omega) kk)
    | 18, _, h => exact lv_tableIn (off := 681) (tgt := 714) hx hb dL_law_33 (by rw [h]; decide) (by rw [h]; decide) (by rw [h]; rfl) (by decide) (lw_c18 l hE hL h6 hl hk hJ hq hr9 (by omega) kk)
    | 19, _, h => exact lv_tableIn (off := 694) (tgt := 727) hx hb dL_law_33 (by rw [h]; decide) (by rw [h]; decide) (by rw [h]; rfl) (by decide) (lw_c19 l hE hL h6 hl hk hJ hq hr9 (by omega) kk)
    | 20, _, h => exact lv_tableIn (off := 707) (tgt := 740) hx hb dL_law_33 (by rw [h]; decide) (by rw [h]; decide) (by rw [h]; rfl) (by decide) (lw_c20 l hE hL h6 hl hk hJ hq hr9 (by omega) kk)
    | 21, _, h => exact lv_tableIn (off := 730) (tgt := 763) hx hb dL_law_33 (by rw [h]; decide) (by rw [h]; decide) (by rw [h]; rfl) (by decide) (lw_c21 l hE hL h6 hl hk hJ hq hr9 (by omega) kk)
    | 22, _, h => exact lv_tableIn (off := 753) (tgt := 786) hx hb dL_law_33 (by rw [h]; decide) (by rw [h]; decide) (by rw [h]; rfl) (by decide) (lw_c22 l hE hL h6 hl hk hJ hq hr9 (by omega) kk)
    | 23, _, h => exact lv_tableIn (off := 766) (tgt := 799) hx hb dL_law_33 (by rw [h]; decide) (by rw [h]; decide) (by rw [h]; rfl) (by decide) (lw_c23 l hE hL h6 hl hk hJ hq hr9 (by omega) kk)
    | 24, _, h => exact lv_tableIn (off := 779) (tgt := 812) hx hb dL_law_33 (by rw [h]; decide) (by rw [h]; decide) (by rw [h]; rfl) (by decide) (lw_c24 l hE hL h6 hl hk hJ hq hr9 (by omega) kk)
    | 25, _, h => exact lv_tableIn (off := 802) (tgt := 835) hx hb dL_law_33 (by rw [h]; decide) (by rw [h]; decide) (by rw [h]; rfl) (by decide) (lw_c25 l hE hL h6 hl hk hJ hq hr9 (by omega) kk)
    | 26, _, h => exact lv_tableIn (off := 815) (tgt := 848) hx hb dL_law_33 (by rw [h]; decide) (by rw [h]; decide) (by rw [h]; rfl) (by decide) (lw_c26 l hE hL h6 hl hk hJ hq hr9 (by omega) kk)
    | 27, _, h => exact lv_tableIn (off := 828) (tgt := 861) hx hb dL_law_33 (by rw [h]; decide) (by rw [h]; decide) (by rw [h]; rfl) (by decide) (lw_c27 l hE hL h6 hl hk hJ hq hr9 (by omega) kk)
    | 28, _, h => exact lv_tableIn (off := 861) (tgt := 894) hx hb dL_law_33 (by rw [h]; decide) (by rw [h]; decide) (by rw [h]; rfl) (by decide) (lw_c28 l hE hL h6 hl hk hJ hq hr9 (by omega) kk)
    | 29, _, h => exact lv_tableIn (off := 884) (tgt := 917) hx hb dL_law_33 (by rw [h]; decide) (by rw [h]; decide) (by rw [h]; rfl) (by decide) (lw_c29 l hE hL h6 hl hk hJ hq hr9 (by omega) kk)
    | 30, _, h => exact lv_tableIn (off := 897) (tgt := 930) hx hb dL_law_33 (by rw [h]; decide) (by rw [h]; decide) (by rw [h]; rfl) (by decide) (lw_c30 l hE hL h6 hl hk hJ hq hr9 (by omega) kk)
    | 31, _, h => exact lv_tableIn (off := 910) (tgt := 943) hx hb dL_law_33 (by rw [h]; decide) (by rw [h]; decide) (by rw [h]; rfl) (by decide) (lw_c31 l hE hL h6 hl hk hJ hq hr9 (by omega) kk)
    | 32, _, h => exact lv_tableIn (off := 953) (tgt := 986) hx hb dL_law_33 (by rw [h]; decide) (by rw [h]; decide) (by rw [h]; rfl) (by decide) (lw_c32 l hE hL h6 hl hk hJ hq hr9 (by omega) kk)
    | 33, _, h => exact lv_tableIn (off := 966) (tgt := 999) hx hb dL_law_33 (by rw [h]; decide) (by rw [h]; decide) (by rw [h]; rfl) (by decide) (lw_c33 l hE hL h6 hl hk hJ hq hr9 (by omega) kk)
    | 34, _, h => exact lv_tableIn (off := 979) (tgt := 1012) hx hb dL_law_33 (by rw [h]; decide) (by rw [h]; decide) (by rw [h]; rfl) (by decide) (lw_c34 l hE hL h6 hl hk hJ hq hr9 (by omega) kk)
    | 35, _, h => exact lv_tableIn (off := 1002) (tgt := 1035) hx hb dL_law_33 (by rw [h]; decide) (by rw [h]; decide) (by rw [h]; rfl) (by decide) (lw_c35 l hE hL h6 hl hk hJ hq hr9 (by omega) kk)
    | 36, _, h => exact lv_tableIn (off := 1035) (tgt := 1068) hx hb dL_law_33 (by rw [h]; decide) (by rw [h]; decide) (by rw [h]; rfl) (by decide) (lw_c36 l hE hL h6 hl hk hJ hq hr9 (by omega) kk)
    | 37, _, h => exact lv_tableIn (off := 1058) (tgt := 1091) hx hb dL_law_33 (by rw [h]; decide) (by rw [h]; decide) (by rw [h]; rfl) (by decide) (lw_c37 l hE hL h6 hl hk hJ hq hr9 (by omega) kk)
    | 38, _, h => exact lv_tableIn (off := 1091) (tgt := 1124) hx hb dL_law_33 (by rw [h]; decide) (by rw [h]; decide) (by rw [h]; rfl) (by decide) (lw_c38 l hE hL h6 hl hk hJ hq hr9 (by omega) kk)
    | 39, _, h => exact lv_tableIn (off := 1124) (tgt := 1157) hx hb dL_law_33 (by rw [h]; decide) (by rw [h]; decide) (by rw [h]; rfl) (by decide) (lw_c39 l hE hL h6 hl hk hJ hq hr9 (by omega) kk)
    | 40, _, h => exact lv_tableIn (off := 1147) (tgt := 1180) hx hb dL_law_33 (by rw [h]; decide) (by rw [h]; decide) (by rw [h]; rfl) (by decide) (lw_c40 l hE hL h6 hl hk hJ hq hr9 (by omega) kk)
    | 41, _, h => exact lv_tableIn (off := 1170) (tgt := 1203) hx hb dL_law_33 (by rw [h]; decide) (by rw [h]; decide) (by rw [h]; rfl) (by decide) (lw_c41 l hE hL h6 hl hk hJ hq hr9 (by omega) kk)
    | 42, _, h => exact lv_tableIn (off := 1193) (tgt := 1226) hx hb dL_law_33 (by rw [h]; decide) (by rw [h]; decide) (by rw [h]; rfl) (by decide) (lw_c42 l hE hL h6 hl hk hJ hq hr9 (by omega) kk)
    | n + 43, h, _ => exact absurd h (by omega)
end
section
set_option maxHeartbeats 4000000 in
set_option maxRecDepth 100000 in
theorem whole_start {p : Program} {e : Env} {s : State} {m : MethodId} {below : List Frame} {meth : Method} {c : Code} (l : Launch) {b L : Nat} {xs : Nat → Int32} (hL : L ≤ 384) (C0 : lw_At p s m meth c b L xs) : W p l e room_1 s m #[Value.ref b] below meth c s.heap [] 0 0 (lw_Z below #[Value.ref b] s) (entryFrame m ([Value.ref b] : List Value).toArray 4) := by
  obtain ⟨hx, hb, hr, hml, hown, hts, hX, hbl, hlocks, hgv⟩ := id C0
  obtain ⟨G, hG, hK, hPT⟩ := lw_K hts s.heap.size
  have hZ := lw_Zs hG hts (cb_r hgv)
  have hC : th_C p s m #[Value.ref b] c cL_law 4 RL G := ⟨hx, hb, hml, hown, fun w hw => hts w (List.mem_filter.mp hw).1, hK⟩
  have hI0 : th_I G lw_g0 s.heap := fun a r o d hg hd => by cases lw_g0c hg; cases hd
  have hR0 : th_RC G lw_g0 s.heap := ⟨fun a o h => (by cases lw_g0c h), fun b o h => (by rcases h with h | h <;> cases lw_g0c h), fun a o h => (by cases lw_g0c h), fun a a1 o o1 h => (by cases lw_g0c h)⟩
  have hS : va_S (fun q => G.1.2.2 ≤ q) s.heap s.heap [] := va_S.rf
  have hl := lv_entry ([.ref b]) (n := 4) (Nat.le_of_ble_eq_true rfl)
  rw [lg_entry_eq]
  generalize (lg_sl ([.ref b]) ++ List.replicate (4 - (lg_sl ([.ref b])).length) Slot.unset).toArray = ls at hl ⊢
  have hl : lv_has ls 4 [(0, .ref b)] := hl
  refine tl_new hC cf_X11 hI0 hS kw_22 kw_23 kw_1 (Nat.le_of_ble_eq_true rfl) (Nat.le_of_ble_eq_true rfl) dL_law_0 (fun H1 z1 o1 hI1 hS1 ho1 => ?_)
  have nm0 : ∀ q, ¬ th_MR G lw_g0 H1 q := fun q w => by obtain ⟨a, o, j, g, -⟩ := w; cases lw_g0c g
  have hR1 := th_RC_s hI0 hR0 ho1.1 (fun w => by obtain ⟨a, o, j, g, -⟩ := w; cases lw_g0c g) hI1 (by omega) o1
  refine lv_dup hx hb dL_law_3 rfl ?_
  refine th_call (th_runI (As := []) (rest := [.ref s.heap.size]) hC mf_X11_init kl_9 im_X11_init rfl (c_X11_init_i l G lw_g0 H1 hI1 hR1 s.heap.size ho1 (by omega) (by omega) (nm0 _) z1 (fun a o w => by cases lw_g0c w)) rfl rfl ⟨Nat.le_of_ble_eq_true rfl, Nat.le_of_ble_eq_true rfl⟩ rfl hl.1 rfl (Nat.le_of_ble_eq_true rfl) dL_law_4 ⟨Nat.le_of_ble_eq_true rfl, Nat.le_of_ble_eq_true rfl⟩) hS1 (fun v2 H2 locs2 hp2 hz2 hS2 => ?_)
  obtain ⟨rfl, Γ1, hy, hin, hzn⟩ := hp2
  have hg1 := hy.2.2.1
  obtain ⟨rd, hrd, hrg⟩ := lw_fr hy.1.1 hg1 ro_42 (j := 6) (r2 := 20) rfl
  have hI2 := lw_un_I hy.1.1 hg1 hrd hrg
  have hR2 := lw_un_R (ax := s.heap.size) (rd := rd) hy.2.1
  have hg2 : lw_un Γ1 s.heap.size rd s.heap.size = (42, 0) := lw_un_k hg1 (fun _ => rfl) (fun w => by cases w)
  have hu2 : ∀ a a1 o o1 : Nat, lw_un Γ1 s.heap.size rd a = (20, o) → lw_un Γ1 s.heap.size rd a1 = (20, o1) → a = a1 := fun a a1 o o1 w w1 => lw_un_q w w1
  have hT2 : ∀ q r o : Nat, lw_un Γ1 s.heap.size rd q = (r, o) → (th_ro r).isSome = true → th_ini G H2 r q := fun q r o hg hs => by
    obtain ⟨d, hd⟩ := Option.isSome_iff_exists.mp hs
    have e1 := (lw_un_c hg hd).1
    by_cases w : q = s.heap.size ∨ H1.size ≤ q
    · exact hin q r o e1 w hs
    · have e9 := lw_g0c ((hy.1.2.2 q (by omega) (by omega)).1.symm.trans e1)
      rw [e9] at hs
      cases hs
  generalize lw_un Γ1 s.heap.size rd = Γ2 at hI2 hR2 hg2 hu2 hT2
  refine W.eq (g2 := F0 m 7 ls [.ref s.heap.size]) rfl ?_
  refine lv_astore_n (lv' := [(1, .ref s.heap.size), (0, .ref b)]) hx hb dL_law_7 rfl hl (by decide) rfl (fun ls hl => ?_)
  have hax : s.heap.size < H2.size := by omega
  refine tl_new hC cf_X12 hI2 hS2 kw_1220 kw_1221 kw_14 (Nat.le_of_ble_eq_true rfl) (Nat.le_of_ble_eq_true rfl) dL_law_8 (fun H3 z3 o3 hI3 hS3 ho3 => ?_)
  have nm2 : ¬ th_MR G Γ2 H2 H2.size := fun w => absurd (th_MR_lt hR2 w) (by omega)
  have hR3 := th_RC_s hI2 hR2 ho3.1 nm2 hI3 (by omega) o3
  have nm3 : ¬ th_MR G Γ2 H3 H2.size := fun w => nm2 (th_MR_s ho3.1 o3 w)
  refine lv_dup hx hb dL_law_11 rfl ?_
  refine th_call (th_runI (As := []) (rest := [.ref H2.size]) hC mf_X12_init kl_12 im_X12_init rfl (c_X12_init_i l G Γ2 H3 hI3 hR3 H2.size ho3 (by omega) (by omega) nm3) rfl rfl ⟨Nat.le_of_ble_eq_true rfl, Nat.le_of_ble_eq_true rfl⟩ rfl hl.1 rfl (Nat.le_of_ble_eq_true rfl) dL_law_12 ⟨Nat.le_of_ble_eq_true rfl, Nat.le_of_ble_eq_true rfl⟩) hS3 (fun v4 H4 locs4 hp4 hz4 hS4 => ?_)
  obtain ⟨rfl, Γ3, hy4, hN4, fw, hMV⟩ := hp4
  have hg3 : Γ3 s.heap.size = (42, 0) := (hy4.1.2.2 s.heap.size (by omega) (by omega)).1.trans hg2
  have hu3 : ∀ a o : Nat, Γ3 a = (20, o) → Γ2 a = (20, o) := fun a o w => by
    by_cases q9 : a = H2.size ∨ H3.size ≤ a
    · exact absurd (hy4.2.2.2.2 a 20 o w q9 rfl) (by decide)
    · exact (hy4.1.2.2 a (by omega) (by omega)).1.symm.trans w
  have hT4 : lx_T G (lx_un G Γ3 H4) H4 := fun q r o hg h46 hs => by
    obtain ⟨d, hd⟩ := Option.isSome_iff_exists.mp hs
    have e1 := (lx_c hg hd).1
    by_cases w : q = H2.size ∨ H3.size ≤ q
    · have e2 := hy4.2.2.2.2 q r o e1 w hs
      exact absurd e2 (fun e3 => by
        have e4 : ∀ x ∈ ([46, 47, 48, 49, 50, 51, 52, 53, 54, 55, 56, 57, 58, 59, 60, 61, 62, 63, 64, 65, 66, 67, 68, 69, 70] : List Nat), 46 ≤ x := by decide
        have e5 := e4 r e3
        omega)
    · have e2 := (hy4.1.2.2 q (by omega) (by omega)).1.symm.trans e1
      exact th_ini_k ((hy4.1.2.2 q (by omega) (by omega)).2.trans (o3 q (by omega))) (hT2 q r o e2 hs)
  have hI5 := lx_I hy4.1.1
  have hN5 := lx_RN (H := H4) hN4
  have hU5 : dv_U (lx_un G Γ3 H4) := lx_U
  have hg5 : lx_un G Γ3 H4 s.heap.size = (42, 0) := lx_o hg3 rfl
  have hm5 : lx_un G Γ3 H4 H2.size = (46, 0) := lx_o hy4.2.2.1 rfl
  have hu5 : ∀ a a1 o o1 : Nat, lx_un G Γ3 H4 a = (20, o) → lx_un G Γ3 H4 a1 = (20, o1) → a = a1 := fun a a1 o o1 w w1 => hu2 a a1 o o1 (hu3 a o (lx_c w ro_20).1) (hu3 a1 o1 (lx_c w1 ro_20).1)
  generalize lx_un G Γ3 H4 = Γ5 at hT4 hI5 hN5 hU5 hg5 hm5 hu5
  have hq5 := lx_RR hI5 hU5 hT4 hg5 hm5 hMV
  have hk5 := (lx_tree hI5 hU5 hT4 hg5).1
  have hs5 := lx_rd0 hI5 hU5 hT4 hg5
  have hE : lw_E p s m c b L xs G Γ5 s.heap.size H2.size := ⟨hC, hG, hZ, hX, hbl, hg5, hm5, hu5⟩
  obtain ⟨u, hu⟩ := lw_bits hI5 hN5.1 hg5
  refine W.eq (g2 := F0 m 15 ls [.ref H2.size]) rfl ?_
  refine lv_astore_n (lv' := [(2, .ref H2.size), (1, .ref s.heap.size), (0, .ref b)]) hx hb dL_law_15 rfl hl (by decide) rfl (fun ls hl => ?_)
  refine lv_iconst (v := 0) hx hb dL_law_16 (by decide) ?_
  refine lv_istore_n (lv' := [(3, .int 0), (2, .ref H2.size), (1, .ref s.heap.size), (0, .ref b)]) hx hb dL_law_17 rfl hl (by decide) rfl (fun ls hl => ?_)
  have h8 := lw_pcb hu.1
  refine W.widen (k := 600000 - th_pc u) (n := 7302250 - th_pq u) (by omega) (by omega) ?_
  exact lw_loop l hE hL hr hlocks ⟨hU5, hk5, hs5.1, hPT⟩ (L + 1) 0 (Nat.zero_le L) (by omega) u H4 locs4 ls ⟨hI5, hN5, hu, hS4⟩ hq5 0 hs5.2 (by omega) (by rw [nI_0]; exact hl)
end
