set_option maxHeartbeats 4000000 in
set_option maxRecDepth 100000 in
theorem lw_loop {p : Program} {e : Env} {s : State} {m : MethodId} {below : List Frame} {meth : Method} {c : Code} {G : th_G} {Γ : th_Ga} {ax am b L : Nat} {xs : Nat → Int32} (l : Launch) (hE : lw_E p s m c b L xs G Γ ax am) (hL : L ≤ 384) (hr : meth.sig.returnType = ret) (hlocks : meth.locks = false) (hk : dv_U Γ ∧ lw_AR Γ ax) : ∀ (k n : Nat), n ≤ L → L < n + k → ∀ (u : Nat) (H : Heap) (locs : List Loc) (ls : Array Slot), lw_J G Γ am s H locs u → RR (lw_A ax) (am : Int) (dv G Γ H) (dv G Γ H) → lv_has ls 4 [(3, .int (nI n)), (2, .ref am), (1, .ref ax), (0, .ref b)] → W p l e room_1 s m #[Value.ref b] below meth c H locs (600000 - th_pc u) (7302250 - th_pq u) (lw_Z below #[Value.ref b] s) (F0 m 18 ls []) := by
  have hx := hE.1.1
  have hb := hE.1.2.1
  have hX := hE.2.2.2.1
  have hbl := hE.2.2.2.2.1
  intro k
  induction k with
  | zero =>
    intro n hn hnk
    exact absurd hnk (by omega)
  | succ k ih =>
    intro n hn hnk u H locs ls hJ hq hl
    have hS := hJ.2.2.2
    refine lv_iload_n hx hb dL_law_18 rfl (lv_at hl 0 rfl) ?_
    refine lv_aload_n hx hb dL_law_19 rfl (lv_at hl 3 rfl) ?_
    refine va_slen hx hb hX hbl (lw_hA hE) hS dL_law_20 ?_
    refine lv_bipush (v := 6) hx hb dL_law_21 (by decide) ?_
    refine tr_isub (a := (L : Int)) (b := 6) hx hb dL_law_23 (nI_toInt (by omega)) rfl (by omega) (by omega) (fun z ez => ?_)
    refine tr_icmp_gt (tgt := 1245) hx hb dL_law_24 (by decide) (nI_toInt (by omega)) ez (fun h => ?_) (fun h => ?_)
    · refine lv_iconst (v := 1) hx hb dL_law_1245 (by decide) ?_
      refine va_forget (fun q hq => by have h9 : G.2.2 ≤ q.base := hS.2.2 q hq; have h0 := hE.2.1; omega) ?_
      refine W.widen (k := 600000) (n := 7302250) (Nat.sub_le _ _) (Nat.sub_le _ _) ?_
      exact lw_ret hx hb hr hlocks dL_law_1246
    have h6 : n + 6 ≤ L := by omega
    have kk : ∀ (u1 : Nat) (H1 : Heap) (locs1 : List Loc), lw_J G Γ am s H1 locs1 u1 → RR (lw_A ax) (am : Int) (dv G Γ H1) (dv G Γ H1) → W p l e room_1 s m #[Value.ref b] below meth c H1 locs1 (600000 - th_pc u1) (7302250 - th_pq u1) (lw_Z below #[Value.ref b] s) (F0 m 1239 ls []) := by
      intro u1 H1 locs1 hJ1 hq1
      refine lv_iinc (v := nI (n + 6)) (lv' := [(3, .int (nI (n + 6))), (2, .ref am), (1, .ref ax), (0, .ref b)]) hx hb dL_law_1239 hl (k := 0) rfl (nI_add n 6) (by decide) rfl (fun ls hl => ?_)
      refine lv_goto (tgt := 18) hx hb dL_law_1242 (by decide) ?_
      exact ih (n + 6) (by omega) (by omega) u1 H1 locs1 ls hJ1 hq1 hl
    refine lv_aload_n hx hb dL_law_27 rfl (lv_at hl 3 rfl) ?_
    refine lv_iload_n hx hb dL_law_28 rfl (lv_at hl 0 rfl) ?_
    refine va_sld hx hb hX hbl (lw_hA hE) hS (vp_in_nI (by omega) (by omega)) dL_law_29 ?_
    refine lv_bipush (v := 63) hx hb dL_law_30 (by decide) ?_
    refine lv_iand hx hb dL_law_32 ?_
    refine lv_topi (fun x ex => ?_)
    by_cases hw : x.toInt < 0 ∨ 42 < x.toInt
    · exact lv_tableOut (tgt := 1239) hx hb dL_law_33 hw (by decide) (kk u H locs hJ hq)
    obtain ⟨k9, hk9, ek9⟩ : ∃ k : Nat, k < 43 ∧ x.toInt = (k : Int) := ⟨x.toInt.toNat, by omega, by omega⟩
    match k9, hk9, ek9 with
    | 0, _, h => exact lv_tableIn (off := 187) (tgt := 220) hx hb dL_law_33 (by rw [h]; decide) (by rw [h]; decide) (by rw [h]; rfl) (by decide) (lw_c0 l hE hL h6 hl hk hJ hq kk)
    | 1, _, h => exact lv_tableIn (off := 230) (tgt := 263) hx hb dL_law_33 (by rw [h]; decide) (by rw [h]; decide) (by rw [h]; rfl) (by decide) (lw_c1 l hE hL h6 hl hk hJ hq kk)
    | 2, _, h => exact lv_tableIn (off := 263) (tgt := 296) hx hb dL_law_33 (by rw [h]; decide) (by rw [h]; decide) (by rw [h]; rfl) (by decide) (lw_c2 l hE hL h6 hl hk hJ hq kk)
    | 3, _, h => exact lv_tableIn (off := 296) (tgt := 329) hx hb dL_law_33 (by rw [h]; decide) (by rw [h]; decide) (by rw [h]; rfl) (by decide) (lw_c3 l hE hL h6 hl hk hJ hq kk)
    | 4, _, h => exact lv_tableIn (off := 329) (tgt := 362) hx hb dL_law_33 (by rw [h]; decide) (by rw [h]; decide) (by rw [h]; rfl) (by decide) (lw_c4 l hE hL h6 hl hk hJ hq kk)
    | 5, _, h => exact lv_tableIn (off := 382) (tgt := 415) hx hb dL_law_33 (by rw [h]; decide) (by rw [h]; decide) (by rw [h]; rfl) (by decide) (lw_c5 l hE hL h6 hl hk hJ hq kk)
    | 6, _, h => exact lv_tableIn (off := 415) (tgt := 448) hx hb dL_law_33 (by rw [h]; decide) (by rw [h]; decide) (by rw [h]; rfl) (by decide) (lw_c6 l hE hL h6 hl hk hJ hq kk)
    | 7, _, h => exact lv_tableIn (off := 478) (tgt := 511) hx hb dL_law_33 (by rw [h]; decide) (by rw [h]; decide) (by rw [h]; rfl) (by decide) (lw_c7 l hE hL h6 hl hk hJ hq kk)
    | 8, _, h => exact lv_tableIn (off := 501) (tgt := 534) hx hb dL_law_33 (by rw [h]; decide) (by rw [h]; decide) (by rw [h]; rfl) (by decide) (lw_c8 l hE hL h6 hl hk hJ hq kk)
    | 9, _, h => exact lv_tableIn (off := 514) (tgt := 547) hx hb dL_law_33 (by rw [h]; decide) (by rw [h]; decide) (by rw [h]; rfl) (by decide) (lw_c9 l hE hL h6 hl hk hJ hq kk)
    | 10, _, h => exact lv_tableIn (off := 527) (tgt := 560) hx hb dL_law_33 (by rw [h]; decide) (by rw [h]; decide) (by rw [h]; rfl) (by decide) (lw_c10 l hE hL h6 hl hk hJ hq kk)
    | 11, _, h => exact lv_tableIn (off := 540) (tgt := 573) hx hb dL_law_33 (by rw [h]; decide) (by rw [h]; decide) (by rw [h]; rfl) (by decide) (lw_c11 l hE hL h6 hl hk hJ hq kk)
    | 12, _, h => exact lv_tableIn (off := 553) (tgt := 586) hx hb dL_law_33 (by rw [h]; decide) (by rw [h]; decide) (by rw [h]; rfl) (by decide) (lw_c12 l hE hL h6 hl hk hJ hq kk)
    | 13, _, h => exact lv_tableIn (off := 566) (tgt := 599) hx hb dL_law_33 (by rw [h]; decide) (by rw [h]; decide) (by rw [h]; rfl) (by decide) (lw_c13 l hE hL h6 hl hk hJ hq kk)
    | 14, _, h => exact lv_tableIn (off := 579) (tgt := 612) hx hb dL_law_33 (by rw [h]; decide) (by rw [h]; decide) (by rw [h]; rfl) (by decide) (lw_c14 l hE hL h6 hl hk hJ hq kk)
    | 15, _, h => exact lv_tableIn (off := 602) (tgt := 635) hx hb dL_law_33 (by rw [h]; decide) (by rw [h]; decide) (by rw [h]; rfl) (by decide) (lw_c15 l hE hL h6 hl hk hJ hq kk)
    | 16, _, h => exact lv_tableIn (off := 645) (tgt := 678) hx hb dL_law_33 (by rw [h]; decide) (by rw [h]; decide) (by rw [h]; rfl) (by decide) (lw_c16 l hE hL h6 hl hk hJ hq kk)
    | 17, _, h => exact lv_tableIn (off := 668) (tgt := 701) hx hb dL_law_33 (by rw [h]; decide) (by rw [h]; decide) (by rw [h]; rfl) (by decide) (lw_c17 l hE hL h6 hl hk hJ hq kk)
    | 18, _, h => exact lv_tableIn (off := 681) (tgt := 714) hx hb dL_law_33 (by rw [h]; decide) (by rw [h]; decide) (by rw [h]; rfl) (by decide) (lw_c18 l hE hL h6 hl hk hJ hq kk)
    | 19, _, h => exact lv_tableIn (off := 694) (tgt := 727) hx hb dL_law_33 (by rw [h]; decide) (by rw [h]; decide) (by rw [h]; rfl) (by decide) (lw_c19 l hE hL h6 hl hk hJ hq kk)
    | 20, _, h => exact lv_tableIn (off := 707) (tgt := 740) hx hb dL_law_33 (by rw [h]; decide) (by rw [h]; decide) (by rw [h]; rfl) (by decide) (lw_c20 l hE hL h6 hl hk hJ hq kk)
    | 21, _, h => exact lv_tableIn (off := 730) (tgt := 763) hx hb dL_law_33 (by rw [h]; decide) (by rw [h]; decide) (by rw [h]; rfl) (by decide) (lw_c21 l hE hL h6 hl hk hJ hq kk)
    | 22, _, h => exact lv_tableIn (off := 753) (tgt := 786) hx hb dL_law_33 (by rw [h]; decide) (by rw [h]; decide) (by rw [h]; rfl) (by decide) (lw_c22 l hE hL h6 hl hk hJ hq kk)
    | 23, _, h => exact lv_tableIn (off := 766) (tgt := 799) hx hb dL_law_33 (by rw [h]; decide) (by rw [h]; decide) (by rw [h]; rfl) (by decide) (lw_c23 l hE hL h6 hl hk hJ hq kk)
    | 24, _, h => exact lv_tableIn (off := 779) (tgt := 812) hx hb dL_law_33 (by rw [h]; decide) (by rw [h]; decide) (by rw [h]; rfl) (by decide) (lw_c24 l hE hL h6 hl hk hJ hq kk)
    | 25, _, h => exact lv_tableIn (off := 802) (tgt := 835) hx hb dL_law_33 (by rw [h]; decide) (by rw [h]; decide) (by rw [h]; rfl) (by decide) (lw_c25 l hE hL h6 hl hk hJ hq kk)
    | 26, _, h => exact lv_tableIn (off := 815) (tgt := 848) hx hb dL_law_33 (by rw [h]; decide) (by rw [h]; decide) (by rw [h]; rfl) (by decide) (lw_c26 l hE hL h6 hl hk hJ hq kk)
    | 27, _, h => exact lv_tableIn (off := 828) (tgt := 861) hx hb dL_law_33 (by rw [h]; decide) (by rw [h]; decide) (by rw [h]; rfl) (by decide) (lw_c27 l hE hL h6 hl hk hJ hq kk)
    | 28, _, h => exact lv_tableIn (off := 861) (tgt := 894) hx hb dL_law_33 (by rw [h]; decide) (by rw [h]; decide) (by rw [h]; rfl) (by decide) (lw_c28 l hE hL h6 hl hk hJ hq kk)
    | 29, _, h => exact lv_tableIn (off := 884) (tgt := 917) hx hb dL_law_33 (by rw [h]; decide) (by rw [h]; decide) (by rw [h]; rfl) (by decide) (lw_c29 l hE hL h6 hl hk hJ hq kk)
    | 30, _, h => exact lv_tableIn (off := 897) (tgt := 930) hx hb dL_law_33 (by rw [h]; decide) (by rw [h]; decide) (by rw [h]; rfl) (by decide) (lw_c30 l hE hL h6 hl hk hJ hq kk)
    | 31, _, h => exact lv_tableIn (off := 910) (tgt := 943) hx hb dL_law_33 (by rw [h]; decide) (by rw [h]; decide) (by rw [h]; rfl) (by decide) (lw_c31 l hE hL h6 hl hk hJ hq kk)
    | 32, _, h => exact lv_tableIn (off := 953) (tgt := 986) hx hb dL_law_33 (by rw [h]; decide) (by rw [h]; decide) (by rw [h]; rfl) (by decide) (lw_c32 l hE hL h6 hl hk hJ hq kk)
    | 33, _, h => exact lv_tableIn (off := 966) (tgt := 999) hx hb dL_law_33 (by rw [h]; decide) (by rw [h]; decide) (by rw [h]; rfl) (by decide) (lw_c33 l hE hL h6 hl hk hJ hq kk)
    | 34, _, h => exact lv_tableIn (off := 979) (tgt := 1012) hx hb dL_law_33 (by rw [h]; decide) (by rw [h]; decide) (by rw [h]; rfl) (by decide) (lw_c34 l hE hL h6 hl hk hJ hq kk)
    | 35, _, h => exact lv_tableIn (off := 1002) (tgt := 1035) hx hb dL_law_33 (by rw [h]; decide) (by rw [h]; decide) (by rw [h]; rfl) (by decide) (lw_c35 l hE hL h6 hl hk hJ hq kk)
    | 36, _, h => exact lv_tableIn (off := 1035) (tgt := 1068) hx hb dL_law_33 (by rw [h]; decide) (by rw [h]; decide) (by rw [h]; rfl) (by decide) (lw_c36 l hE hL h6 hl hk hJ hq kk)
    | 37, _, h => exact lv_tableIn (off := 1058) (tgt := 1091) hx hb dL_law_33 (by rw [h]; decide) (by rw [h]; decide) (by rw [h]; rfl) (by decide) (lw_c37 l hE hL h6 hl hk hJ hq kk)
    | 38, _, h => exact lv_tableIn (off := 1091) (tgt := 1124) hx hb dL_law_33 (by rw [h]; decide) (by rw [h]; decide) (by rw [h]; rfl) (by decide) (lw_c38 l hE hL h6 hl hk hJ hq kk)
    | 39, _, h => exact lv_tableIn (off := 1124) (tgt := 1157) hx hb dL_law_33 (by rw [h]; decide) (by rw [h]; decide) (by rw [h]; rfl) (by decide) (lw_c39 l hE hL h6 hl hk hJ hq kk)
    | 40, _, h => exact lv_tableIn (off := 1147) (tgt := 1180) hx hb dL_law_33 (by rw [h]; decide) (by rw [h]; decide) (by rw [h]; rfl) (by decide) (lw_c40 l hE hL h6 hl hk hJ hq kk)
    | 41, _, h => exact lv_tableIn (off := 1170) (tgt := 1203) hx hb dL_law_33 (by rw [h]; decide) (by rw [h]; decide) (by rw [h]; rfl) (by decide) (lw_c41 l hE hL h6 hl hk hJ hq kk)
    | 42, _, h => exact lv_tableIn (off := 1193) (tgt := 1226) hx hb dL_law_33 (by rw [h]; decide) (by rw [h]; decide) (by rw [h]; rfl) (by decide) (lw_c42 l hE hL h6 hl hk hJ hq kk)
    | n + 43, h, _ => exact absurd h (by omega)
