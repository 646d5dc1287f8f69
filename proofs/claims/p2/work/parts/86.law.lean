set_option maxHeartbeats 4000000 in
set_option maxRecDepth 100000 in
theorem lw_c22 {p : Program} {e : Env} {s : State} {m : MethodId} {below : List Frame} {meth : Method} {c : Code} {Q : State → Prop} {G : th_G} {Γ : th_Ga} {ax am b L n : Nat} {xs : Nat → Int32} {ls : Array Slot} (l : Launch) (hE : lw_E p s m c b L xs G Γ ax am) (hL : L ≤ 384) (hn : n + 6 ≤ L) (hl : lv_has ls 4 [(3, .int (nI n)), (2, .ref am), (1, .ref ax), (0, .ref b)]) (hk : dv_U Γ ∧ lw_AR Γ ax) {u : Nat} {H : Heap} {locs : List Loc} (hJ : lw_J G Γ am s H locs u) (hq : RR (lw_A ax) (am : Int) (dv G Γ H) (dv G Γ H)) (kk : ∀ (u1 : Nat) (H1 : Heap) (locs1 : List Loc), lw_J G Γ am s H1 locs1 u1 → RR (lw_A ax) (am : Int) (dv G Γ H1) (dv G Γ H1) → W p l e room_1 s m #[Value.ref b] below meth c H1 locs1 (600000 - th_pc u1) (7302250 - th_pq u1) Q (F0 m 1239 ls [])) : W p l e room_1 s m #[Value.ref b] below meth c H locs (600000 - th_pc u) (7302250 - th_pq u) Q (F0 m 786 ls []) := by
  have hx := hE.1.1
  have hb := hE.1.2.1
  have hax := hE.2.2.2.2.2.1
  have ham := hE.2.2.2.2.2.2.1
  have hU := hk.1
  have hA := hk.2
  refine lv_aload_n hx hb dL_law_786 rfl (lv_at hl 2 rfl) ?_
  refine lw_callb (pc' := 790) (k := 1) (P := (fun w K => ∃ r : Int32, w = .int r ∧ cf (lw_A ax) cs_L (dv G Γ H) (dv G Γ K) ∧ wf (am : Int) nW (dv G Γ H) (dv G Γ K))) hJ (th_runV (As := []) (rest := []) hE.1 mf_X11_ways kl_107 im_X11_ways se_X11_ways (c_X11_ways l G Γ H hJ.1 hJ.2.1.1 hU ax hax u hJ.2.2.1) rfl rfl ⟨Nat.le_of_ble_eq_true rfl, Nat.le_of_ble_eq_true rfl⟩ hJ.1 hax ro_42 rfl rfl hl.1 rfl (Nat.le_of_ble_eq_true rfl) dL_law_787 ⟨lw_f3 hJ.2.2.1.1, lw_f4 hJ.2.2.1.1⟩) (fun v K hp => by obtain ⟨r, rfl, hI1, hF1, hR1, hbp⟩ := hp; exact ⟨_, rfl, rfl, hI1, th_RN_c hR1 hJ.2.1 hI1 ham hF1 (by decide), hbp, ⟨r, rfl, lw_cf hJ.1 hI1 hF1 hA (by decide +kernel), lw_wf hJ.1 hI1 hF1 ham (by decide +kernel)⟩⟩) rfl (fun u1 w1 H1 locs hc1 hJ1 hP1 => ?_)
  obtain ⟨r1, rfl, f1, g1⟩ := hP1
  refine lv_pop hx hb dL_law_790 hc1 ?_
  refine lv_aload_n hx hb dL_law_791 rfl (lv_at hl 1 rfl) ?_
  refine lw_call (pc' := 795) (k := 1) (P := (fun w K => ∃ r : Int32, w = .int r ∧ f_X12_ways (dv G Γ H1) (am : Int) = ((dv G Γ K), r.toInt) ∧ cf (lw_A ax) nV (dv G Γ H1) (dv G Γ K))) hJ1 (th_runV (As := []) (rest := []) hE.1 mf_X12_ways kl_110 im_X12_ways se_X12_ways (c_X12_ways l G Γ H1 hJ1.1 hU am ham (th_NK hJ1.2.1)) rfl rfl ⟨Nat.le_of_ble_eq_true rfl, Nat.le_of_ble_eq_true rfl⟩ hJ1.1 ham ro_46 rfl rfl hl.1 rfl (Nat.le_of_ble_eq_true rfl) dL_law_792 ⟨lw_f1 _, lw_f2 _⟩) (fun v K hp => by obtain ⟨r, rfl, hI1, hF1, hR1, hf1⟩ := hp; exact ⟨_, rfl, rfl, hI1, th_RN_c hR1.1 hJ1.2.1 hI1 ham hF1 (by decide), th_bits_F hF1 hJ1.2.2.1 (by decide), ⟨r, rfl, hf1, lw_cf hJ1.1 hI1 hF1 hA (by decide +kernel)⟩⟩) rfl (fun w2 H2 locs hc2 hJ2 hP2 => ?_)
  obtain ⟨r2, rfl, e2, f2⟩ := hP2
  refine lv_pop hx hb dL_law_795 hc2 ?_
  have hq1 := glue_C hq f1 (lw_kwA hJ1.1 hA) g1
  have hg := glue_S (fW := fun V => f_X12_ways V (am : Int)) hq1 (sk_of (fW := fun V => f_X12_ways V (am : Int)) (F_ways (RR_JX hq1))) e2 f2
  exact lv_goto (tgt := 1239) hx hb dL_law_796 (by decide) (kk u1 _ locs hJ2 hg)

set_option maxHeartbeats 4000000 in
set_option maxRecDepth 100000 in
theorem lw_c23 {p : Program} {e : Env} {s : State} {m : MethodId} {below : List Frame} {meth : Method} {c : Code} {Q : State → Prop} {G : th_G} {Γ : th_Ga} {ax am b L n : Nat} {xs : Nat → Int32} {ls : Array Slot} (l : Launch) (hE : lw_E p s m c b L xs G Γ ax am) (hL : L ≤ 384) (hn : n + 6 ≤ L) (hl : lv_has ls 4 [(3, .int (nI n)), (2, .ref am), (1, .ref ax), (0, .ref b)]) (hk : dv_U Γ ∧ lw_AR Γ ax) {u : Nat} {H : Heap} {locs : List Loc} (hJ : lw_J G Γ am s H locs u) (hq : RR (lw_A ax) (am : Int) (dv G Γ H) (dv G Γ H)) (kk : ∀ (u1 : Nat) (H1 : Heap) (locs1 : List Loc), lw_J G Γ am s H1 locs1 u1 → RR (lw_A ax) (am : Int) (dv G Γ H1) (dv G Γ H1) → W p l e room_1 s m #[Value.ref b] below meth c H1 locs1 (600000 - th_pc u1) (7302250 - th_pq u1) Q (F0 m 1239 ls [])) : W p l e room_1 s m #[Value.ref b] below meth c H locs (600000 - th_pc u) (7302250 - th_pq u) Q (F0 m 799 ls []) := by
  have hx := hE.1.1
  have hb := hE.1.2.1
  have hax := hE.2.2.2.2.2.1
  have ham := hE.2.2.2.2.2.2.1
  have hU := hk.1
  have hA := hk.2
  refine lv_aload_n hx hb dL_law_799 rfl (lv_at hl 2 rfl) ?_
  refine lw_callb (pc' := 803) (k := 1) (P := (fun w K => ∃ r : Int32, w = .int r ∧ cf (lw_A ax) cs_L (dv G Γ H) (dv G Γ K) ∧ wf (am : Int) nW (dv G Γ H) (dv G Γ K))) hJ (th_runV (As := []) (rest := []) hE.1 mf_X11_cheapest kl_111 im_X11_cheapest se_X11_cheapest (c_X11_cheapest l G Γ H hJ.1 hJ.2.1.1 hU ax hax u hJ.2.2.1) rfl rfl ⟨Nat.le_of_ble_eq_true rfl, Nat.le_of_ble_eq_true rfl⟩ hJ.1 hax ro_42 rfl rfl hl.1 rfl (Nat.le_of_ble_eq_true rfl) dL_law_800 ⟨lw_f3 hJ.2.2.1.1, lw_f4 hJ.2.2.1.1⟩) (fun v K hp => by obtain ⟨r, rfl, hI1, hF1, hR1, hbp⟩ := hp; exact ⟨_, rfl, rfl, hI1, th_RN_c hR1 hJ.2.1 hI1 ham hF1 (by decide), hbp, ⟨r, rfl, lw_cf hJ.1 hI1 hF1 hA (by decide +kernel), lw_wf hJ.1 hI1 hF1 ham (by decide +kernel)⟩⟩) rfl (fun u1 w1 H1 locs hc1 hJ1 hP1 => ?_)
  obtain ⟨r1, rfl, f1, g1⟩ := hP1
  refine lv_pop hx hb dL_law_803 hc1 ?_
  refine lv_aload_n hx hb dL_law_804 rfl (lv_at hl 1 rfl) ?_
  refine lw_call (pc' := 808) (k := 1) (P := (fun w K => ∃ r : Int32, w = .int r ∧ f_X12_cheapest (dv G Γ H1) (am : Int) = ((dv G Γ K), r.toInt) ∧ cf (lw_A ax) nV (dv G Γ H1) (dv G Γ K))) hJ1 (th_runV (As := []) (rest := []) hE.1 mf_X12_cheapest kl_114 im_X12_cheapest se_X12_cheapest (c_X12_cheapest l G Γ H1 hJ1.1 hU am ham (th_NK hJ1.2.1)) rfl rfl ⟨Nat.le_of_ble_eq_true rfl, Nat.le_of_ble_eq_true rfl⟩ hJ1.1 ham ro_46 rfl rfl hl.1 rfl (Nat.le_of_ble_eq_true rfl) dL_law_805 ⟨lw_f1 _, lw_f2 _⟩) (fun v K hp => by obtain ⟨r, rfl, hI1, hF1, hR1, hf1⟩ := hp; exact ⟨_, rfl, rfl, hI1, th_RN_c hR1.1 hJ1.2.1 hI1 ham hF1 (by decide), th_bits_F hF1 hJ1.2.2.1 (by decide), ⟨r, rfl, hf1, lw_cf hJ1.1 hI1 hF1 hA (by decide +kernel)⟩⟩) rfl (fun w2 H2 locs hc2 hJ2 hP2 => ?_)
  obtain ⟨r2, rfl, e2, f2⟩ := hP2
  refine lv_pop hx hb dL_law_808 hc2 ?_
  have hq1 := glue_C hq f1 (lw_kwA hJ1.1 hA) g1
  have hg := glue_S (fW := fun V => f_X12_cheapest V (am : Int)) hq1 (sk_of (fW := fun V => f_X12_cheapest V (am : Int)) (F_cheapest (RR_JX hq1))) e2 f2
  exact lv_goto (tgt := 1239) hx hb dL_law_809 (by decide) (kk u1 _ locs hJ2 hg)

set_option maxHeartbeats 4000000 in
set_option maxRecDepth 100000 in
theorem lw_c24 {p : Program} {e : Env} {s : State} {m : MethodId} {below : List Frame} {meth : Method} {c : Code} {Q : State → Prop} {G : th_G} {Γ : th_Ga} {ax am b L n : Nat} {xs : Nat → Int32} {ls : Array Slot} (l : Launch) (hE : lw_E p s m c b L xs G Γ ax am) (hL : L ≤ 384) (hn : n + 6 ≤ L) (hl : lv_has ls 4 [(3, .int (nI n)), (2, .ref am), (1, .ref ax), (0, .ref b)]) (hk : dv_U Γ ∧ lw_AR Γ ax) {u : Nat} {H : Heap} {locs : List Loc} (hJ : lw_J G Γ am s H locs u) (hq : RR (lw_A ax) (am : Int) (dv G Γ H) (dv G Γ H)) (kk : ∀ (u1 : Nat) (H1 : Heap) (locs1 : List Loc), lw_J G Γ am s H1 locs1 u1 → RR (lw_A ax) (am : Int) (dv G Γ H1) (dv G Γ H1) → W p l e room_1 s m #[Value.ref b] below meth c H1 locs1 (600000 - th_pc u1) (7302250 - th_pq u1) Q (F0 m 1239 ls [])) : W p l e room_1 s m #[Value.ref b] below meth c H locs (600000 - th_pc u) (7302250 - th_pq u) Q (F0 m 812 ls []) := by
  have hx := hE.1.1
  have hb := hE.1.2.1
  have hax := hE.2.2.2.2.2.1
  have ham := hE.2.2.2.2.2.2.1
  have hU := hk.1
  have hA := hk.2
  refine lv_aload_n hx hb dL_law_812 rfl (lv_at hl 2 rfl) ?_
  refine lw_ld (pc := 813) (kn := 1) (pc' := 818) hE hJ.2.2.2 hl hn hL dL_law_813 rfl dL_law_814 rfl dL_law_815 (by decide) (by decide) rfl dL_law_816 rfl dL_law_817 rfl ?_
  refine lw_callb (pc' := 821) (k := 1) (P := (fun w K => ∃ r : Int32, w = .int r ∧ cf (lw_A ax) cs_L (dv G Γ H) (dv G Γ K) ∧ wf (am : Int) nW (dv G Γ H) (dv G Γ K))) hJ (th_runV (As := [.int (xs (n + 1))]) (rest := []) hE.1 mf_X11_halls kl_115 im_X11_halls se_X11_halls (c_X11_halls_k l G Γ H hJ.1 hJ.2.1.1 hU ax hax (xs (n + 1)) (ax + 42) (hA 8 (by decide) rfl) (lw_shR hJ.1 hax hq) u hJ.2.2.1) rfl rfl ⟨Nat.le_of_ble_eq_true rfl, Nat.le_of_ble_eq_true rfl⟩ hJ.1 hax ro_42 rfl rfl hl.1 rfl (Nat.le_of_ble_eq_true rfl) dL_law_818 ⟨lw_f3 hJ.2.2.1.1, lw_f4 hJ.2.2.1.1⟩) (fun v K hp => by obtain ⟨r, rfl, hI1, hF1, hR1, hkv, hbp⟩ := hp; exact ⟨_, rfl, rfl, hI1, th_RN_c hR1 hJ.2.1 hI1 ham hF1 (by decide), hbp, ⟨r, rfl, lw_cfk hJ.1 hI1 hF1 hA hkv (by decide +kernel), lw_wf hJ.1 hI1 hF1 ham (by decide +kernel)⟩⟩) rfl (fun u1 w1 H1 locs hc1 hJ1 hP1 => ?_)
  obtain ⟨r1, rfl, f1, g1⟩ := hP1
  refine lv_pop hx hb dL_law_821 hc1 ?_
  refine lv_aload_n hx hb dL_law_822 rfl (lv_at hl 1 rfl) ?_
  refine lw_ld (pc := 823) (kn := 1) (pc' := 828) hE hJ1.2.2.2 hl hn hL dL_law_823 rfl dL_law_824 rfl dL_law_825 (by decide) (by decide) rfl dL_law_826 rfl dL_law_827 rfl ?_
  refine lw_call (pc' := 831) (k := 1) (P := (fun w K => ∃ r : Int32, w = .int r ∧ f_X12_halls (dv G Γ H1) (am : Int) (xs (n + 1)).toInt = ((dv G Γ K), r.toInt) ∧ cf (lw_A ax) nV (dv G Γ H1) (dv G Γ K))) hJ1 (th_runV (As := [.int (xs (n + 1))]) (rest := []) hE.1 mf_X12_halls kl_118 im_X12_halls se_X12_halls (c_X12_halls l G Γ H1 hJ1.1 hU am ham (th_NK hJ1.2.1) (xs (n + 1))) rfl rfl ⟨Nat.le_of_ble_eq_true rfl, Nat.le_of_ble_eq_true rfl⟩ hJ1.1 ham ro_46 rfl rfl hl.1 rfl (Nat.le_of_ble_eq_true rfl) dL_law_828 ⟨lw_f1 _, lw_f2 _⟩) (fun v K hp => by obtain ⟨r, rfl, hI1, hF1, hR1, hf1⟩ := hp; exact ⟨_, rfl, rfl, hI1, th_RN_c hR1.1 hJ1.2.1 hI1 ham hF1 (by decide), th_bits_F hF1 hJ1.2.2.1 (by decide), ⟨r, rfl, hf1, lw_cf hJ1.1 hI1 hF1 hA (by decide +kernel)⟩⟩) rfl (fun w2 H2 locs hc2 hJ2 hP2 => ?_)
  obtain ⟨r2, rfl, e2, f2⟩ := hP2
  refine lv_pop hx hb dL_law_831 hc2 ?_
  have hq1 := glue_C hq f1 (lw_kwA hJ1.1 hA) g1
  have hg := glue_S (fW := fun V => f_X12_halls V (am : Int) (xs (n + 1)).toInt) hq1 (sk_of (fW := fun V => f_X12_halls V (am : Int) (xs (n + 1)).toInt) (F_halls (RR_JX hq1))) e2 f2
  exact lv_goto (tgt := 1239) hx hb dL_law_832 (by decide) (kk u1 _ locs hJ2 hg)

set_option maxHeartbeats 4000000 in
set_option maxRecDepth 100000 in
theorem lw_c25 {p : Program} {e : Env} {s : State} {m : MethodId} {below : List Frame} {meth : Method} {c : Code} {Q : State → Prop} {G : th_G} {Γ : th_Ga} {ax am b L n : Nat} {xs : Nat → Int32} {ls : Array Slot} (l : Launch) (hE : lw_E p s m c b L xs G Γ ax am) (hL : L ≤ 384) (hn : n + 6 ≤ L) (hl : lv_has ls 4 [(3, .int (nI n)), (2, .ref am), (1, .ref ax), (0, .ref b)]) (hk : dv_U Γ ∧ lw_AR Γ ax) {u : Nat} {H : Heap} {locs : List Loc} (hJ : lw_J G Γ am s H locs u) (hq : RR (lw_A ax) (am : Int) (dv G Γ H) (dv G Γ H)) (kk : ∀ (u1 : Nat) (H1 : Heap) (locs1 : List Loc), lw_J G Γ am s H1 locs1 u1 → RR (lw_A ax) (am : Int) (dv G Γ H1) (dv G Γ H1) → W p l e room_1 s m #[Value.ref b] below meth c H1 locs1 (600000 - th_pc u1) (7302250 - th_pq u1) Q (F0 m 1239 ls [])) : W p l e room_1 s m #[Value.ref b] below meth c H locs (600000 - th_pc u) (7302250 - th_pq u) Q (F0 m 835 ls []) := by
  have hx := hE.1.1
  have hb := hE.1.2.1
  have hax := hE.2.2.2.2.2.1
  have ham := hE.2.2.2.2.2.2.1
  have hU := hk.1
  have hA := hk.2
  refine lv_aload_n hx hb dL_law_835 rfl (lv_at hl 2 rfl) ?_
  refine lw_call (pc' := 839) (k := 1) (P := (fun w K => ∃ r : Int32, w = .int r ∧ f_X11_inner (dv G Γ H) (ax : Int) = (r.toInt, ()) ∧ H = K)) hJ (th_runV (As := []) (rest := []) hE.1 mf_X11_inner kl_119 im_X11_inner se_X11_inner (c_X11_inner l G Γ H hJ.1 hU ax hax) rfl rfl ⟨Nat.le_of_ble_eq_true rfl, Nat.le_of_ble_eq_true rfl⟩ hJ.1 hax ro_42 rfl rfl hl.1 rfl (Nat.le_of_ble_eq_true rfl) dL_law_836 ⟨lw_f1 _, lw_f2 _⟩) (fun v K hp => by obtain ⟨r, rfl, hf1, rfl⟩ := hp; exact ⟨_, rfl, rfl, hJ.1, hJ.2.1, hJ.2.2.1, ⟨r, rfl, hf1, rfl⟩⟩) rfl (fun w1 H1 locs hc1 hJ1 hP1 => ?_)
  obtain ⟨r1, rfl, e1, eK1⟩ := hP1
  rw [eK1] at e1 hq
  refine lv_pop hx hb dL_law_839 hc1 ?_
  refine lv_aload_n hx hb dL_law_840 rfl (lv_at hl 1 rfl) ?_
  refine lw_call (pc' := 844) (k := 1) (P := (fun w K => ∃ r : Int32, w = .int r ∧ f_X12_inner (dv G Γ H1) (am : Int) = (r.toInt, ()) ∧ H1 = K)) hJ1 (th_runV (As := []) (rest := []) hE.1 mf_X12_inner kl_122 im_X12_inner se_X12_inner (c_X12_inner l G Γ H1 hJ1.1 hU am ham) rfl rfl ⟨Nat.le_of_ble_eq_true rfl, Nat.le_of_ble_eq_true rfl⟩ hJ1.1 ham ro_46 rfl rfl hl.1 rfl (Nat.le_of_ble_eq_true rfl) dL_law_841 ⟨lw_f1 _, lw_f2 _⟩) (fun v K hp => by obtain ⟨r, rfl, hf1, rfl⟩ := hp; exact ⟨_, rfl, rfl, hJ1.1, hJ1.2.1, hJ1.2.2.1, ⟨r, rfl, hf1, rfl⟩⟩) rfl (fun w2 H2 locs hc2 hJ2 hP2 => ?_)
  obtain ⟨r2, rfl, e2, eK2⟩ := hP2
  refine lv_pop hx hb dL_law_844 hc2 ?_
  rw [eK2] at hq
  exact lv_goto (tgt := 1239) hx hb dL_law_845 (by decide) (kk u _ locs hJ2 hq)

set_option maxHeartbeats 4000000 in
set_option maxRecDepth 100000 in
theorem lw_c26 {p : Program} {e : Env} {s : State} {m : MethodId} {below : List Frame} {meth : Method} {c : Code} {Q : State → Prop} {G : th_G} {Γ : th_Ga} {ax am b L n : Nat} {xs : Nat → Int32} {ls : Array Slot} (l : Launch) (hE : lw_E p s m c b L xs G Γ ax am) (hL : L ≤ 384) (hn : n + 6 ≤ L) (hl : lv_has ls 4 [(3, .int (nI n)), (2, .ref am), (1, .ref ax), (0, .ref b)]) (hk : dv_U Γ ∧ lw_AR Γ ax) {u : Nat} {H : Heap} {locs : List Loc} (hJ : lw_J G Γ am s H locs u) (hq : RR (lw_A ax) (am : Int) (dv G Γ H) (dv G Γ H)) (kk : ∀ (u1 : Nat) (H1 : Heap) (locs1 : List Loc), lw_J G Γ am s H1 locs1 u1 → RR (lw_A ax) (am : Int) (dv G Γ H1) (dv G Γ H1) → W p l e room_1 s m #[Value.ref b] below meth c H1 locs1 (600000 - th_pc u1) (7302250 - th_pq u1) Q (F0 m 1239 ls [])) : W p l e room_1 s m #[Value.ref b] below meth c H locs (600000 - th_pc u) (7302250 - th_pq u) Q (F0 m 848 ls []) := by
  have hx := hE.1.1
  have hb := hE.1.2.1
  have hax := hE.2.2.2.2.2.1
  have ham := hE.2.2.2.2.2.2.1
  have hU := hk.1
  have hA := hk.2
  refine lv_aload_n hx hb dL_law_848 rfl (lv_at hl 2 rfl) ?_
  refine lw_call (pc' := 852) (k := 1) (P := (fun w K => ∃ r : Int32, w = .int r ∧ f_X11_crosses (dv G Γ H) (ax : Int) = (r.toInt, ()) ∧ H = K)) hJ (th_runV (As := []) (rest := []) hE.1 mf_X11_crosses kl_123 im_X11_crosses se_X11_crosses (c_X11_crosses l G Γ H hJ.1 hU ax hax) rfl rfl ⟨Nat.le_of_ble_eq_true rfl, Nat.le_of_ble_eq_true rfl⟩ hJ.1 hax ro_42 rfl rfl hl.1 rfl (Nat.le_of_ble_eq_true rfl) dL_law_849 ⟨lw_f1 _, lw_f2 _⟩) (fun v K hp => by obtain ⟨r, rfl, hf1, rfl⟩ := hp; exact ⟨_, rfl, rfl, hJ.1, hJ.2.1, hJ.2.2.1, ⟨r, rfl, hf1, rfl⟩⟩) rfl (fun w1 H1 locs hc1 hJ1 hP1 => ?_)
  obtain ⟨r1, rfl, e1, eK1⟩ := hP1
  rw [eK1] at e1 hq
  refine lv_pop hx hb dL_law_852 hc1 ?_
  refine lv_aload_n hx hb dL_law_853 rfl (lv_at hl 1 rfl) ?_
  refine lw_call (pc' := 857) (k := 1) (P := (fun w K => ∃ r : Int32, w = .int r ∧ f_X12_crosses (dv G Γ H1) (am : Int) = (r.toInt, ()) ∧ H1 = K)) hJ1 (th_runV (As := []) (rest := []) hE.1 mf_X12_crosses kl_126 im_X12_crosses se_X12_crosses (c_X12_crosses l G Γ H1 hJ1.1 hU am ham) rfl rfl ⟨Nat.le_of_ble_eq_true rfl, Nat.le_of_ble_eq_true rfl⟩ hJ1.1 ham ro_46 rfl rfl hl.1 rfl (Nat.le_of_ble_eq_true rfl) dL_law_854 ⟨lw_f1 _, lw_f2 _⟩) (fun v K hp => by obtain ⟨r, rfl, hf1, rfl⟩ := hp; exact ⟨_, rfl, rfl, hJ1.1, hJ1.2.1, hJ1.2.2.1, ⟨r, rfl, hf1, rfl⟩⟩) rfl (fun w2 H2 locs hc2 hJ2 hP2 => ?_)
  obtain ⟨r2, rfl, e2, eK2⟩ := hP2
  refine lv_pop hx hb dL_law_857 hc2 ?_
  rw [eK2] at hq
  exact lv_goto (tgt := 1239) hx hb dL_law_858 (by decide) (kk u _ locs hJ2 hq)

set_option maxHeartbeats 4000000 in
set_option maxRecDepth 100000 in
theorem lw_c27 {p : Program} {e : Env} {s : State} {m : MethodId} {below : List Frame} {meth : Method} {c : Code} {Q : State → Prop} {G : th_G} {Γ : th_Ga} {ax am b L n : Nat} {xs : Nat → Int32} {ls : Array Slot} (l : Launch) (hE : lw_E p s m c b L xs G Γ ax am) (hL : L ≤ 384) (hn : n + 6 ≤ L) (hl : lv_has ls 4 [(3, .int (nI n)), (2, .ref am), (1, .ref ax), (0, .ref b)]) (hk : dv_U Γ ∧ lw_AR Γ ax) {u : Nat} {H : Heap} {locs : List Loc} (hJ : lw_J G Γ am s H locs u) (hq : RR (lw_A ax) (am : Int) (dv G Γ H) (dv G Γ H)) (kk : ∀ (u1 : Nat) (H1 : Heap) (locs1 : List Loc), lw_J G Γ am s H1 locs1 u1 → RR (lw_A ax) (am : Int) (dv G Γ H1) (dv G Γ H1) → W p l e room_1 s m #[Value.ref b] below meth c H1 locs1 (600000 - th_pc u1) (7302250 - th_pq u1) Q (F0 m 1239 ls [])) : W p l e room_1 s m #[Value.ref b] below meth c H locs (600000 - th_pc u) (7302250 - th_pq u) Q (F0 m 861 ls []) := by
  have hx := hE.1.1
  have hb := hE.1.2.1
  have hax := hE.2.2.2.2.2.1
  have ham := hE.2.2.2.2.2.2.1
  have hU := hk.1
  have hA := hk.2
  refine lv_aload_n hx hb dL_law_861 rfl (lv_at hl 2 rfl) ?_
  refine lw_ld (pc := 862) (kn := 1) (pc' := 867) hE hJ.2.2.2 hl hn hL dL_law_862 rfl dL_law_863 rfl dL_law_864 (by decide) (by decide) rfl dL_law_865 rfl dL_law_866 rfl ?_
  refine lw_ld (pc := 867) (kn := 2) (pc' := 872) hE hJ.2.2.2 hl hn hL dL_law_867 rfl dL_law_868 rfl dL_law_869 (by decide) (by decide) rfl dL_law_870 rfl dL_law_871 rfl ?_
  refine lw_call (pc' := 875) (k := 1) (P := (fun w K => ∃ r : Int32, w = .int r ∧ f_X11_currents (dv G Γ H) (ax : Int) (xs (n + 1)).toInt (xs (n + 2)).toInt = (r.toInt, ()) ∧ H = K)) hJ (th_runV (As := [.int (xs (n + 1)), .int (xs (n + 2))]) (rest := []) hE.1 mf_X11_currents kl_127 im_X11_currents se_X11_currents (c_X11_currents l G Γ H hJ.1 hU ax hax (xs (n + 1)) (xs (n + 2))) rfl rfl ⟨Nat.le_of_ble_eq_true rfl, Nat.le_of_ble_eq_true rfl⟩ hJ.1 hax ro_42 rfl rfl hl.1 rfl (Nat.le_of_ble_eq_true rfl) dL_law_872 ⟨lw_f1 _, lw_f2 _⟩) (fun v K hp => by obtain ⟨r, rfl, hf1, rfl⟩ := hp; exact ⟨_, rfl, rfl, hJ.1, hJ.2.1, hJ.2.2.1, ⟨r, rfl, hf1, rfl⟩⟩) rfl (fun w1 H1 locs hc1 hJ1 hP1 => ?_)
  obtain ⟨r1, rfl, e1, eK1⟩ := hP1
  rw [eK1] at e1 hq
  refine lv_pop hx hb dL_law_875 hc1 ?_
  refine lv_aload_n hx hb dL_law_876 rfl (lv_at hl 1 rfl) ?_
  refine lw_ld (pc := 877) (kn := 1) (pc' := 882) hE hJ1.2.2.2 hl hn hL dL_law_877 rfl dL_law_878 rfl dL_law_879 (by decide) (by decide) rfl dL_law_880 rfl dL_law_881 rfl ?_
  refine lw_ld (pc := 882) (kn := 2) (pc' := 887) hE hJ1.2.2.2 hl hn hL dL_law_882 rfl dL_law_883 rfl dL_law_884 (by decide) (by decide) rfl dL_law_885 rfl dL_law_886 rfl ?_
  refine lw_call (pc' := 890) (k := 1) (P := (fun w K => ∃ r : Int32, w = .int r ∧ f_X12_currents (dv G Γ H1) (am : Int) (xs (n + 1)).toInt (xs (n + 2)).toInt = (r.toInt, ()) ∧ H1 = K)) hJ1 (th_runV (As := [.int (xs (n + 1)), .int (xs (n + 2))]) (rest := []) hE.1 mf_X12_currents kl_130 im_X12_currents se_X12_currents (c_X12_currents l G Γ H1 hJ1.1 hU am ham (xs (n + 1)) (xs (n + 2))) rfl rfl ⟨Nat.le_of_ble_eq_true rfl, Nat.le_of_ble_eq_true rfl⟩ hJ1.1 ham ro_46 rfl rfl hl.1 rfl (Nat.le_of_ble_eq_true rfl) dL_law_887 ⟨lw_f1 _, lw_f2 _⟩) (fun v K hp => by obtain ⟨r, rfl, hf1, rfl⟩ := hp; exact ⟨_, rfl, rfl, hJ1.1, hJ1.2.1, hJ1.2.2.1, ⟨r, rfl, hf1, rfl⟩⟩) rfl (fun w2 H2 locs hc2 hJ2 hP2 => ?_)
  obtain ⟨r2, rfl, e2, eK2⟩ := hP2
  refine lv_pop hx hb dL_law_890 hc2 ?_
  rw [eK2] at hq
  exact lv_goto (tgt := 1239) hx hb dL_law_891 (by decide) (kk u _ locs hJ2 hq)

set_option maxHeartbeats 4000000 in
set_option maxRecDepth 100000 in
theorem lw_c28 {p : Program} {e : Env} {s : State} {m : MethodId} {below : List Frame} {meth : Method} {c : Code} {Q : State → Prop} {G : th_G} {Γ : th_Ga} {ax am b L n : Nat} {xs : Nat → Int32} {ls : Array Slot} (l : Launch) (hE : lw_E p s m c b L xs G Γ ax am) (hL : L ≤ 384) (hn : n + 6 ≤ L) (hl : lv_has ls 4 [(3, .int (nI n)), (2, .ref am), (1, .ref ax), (0, .ref b)]) (hk : dv_U Γ ∧ lw_AR Γ ax) {u : Nat} {H : Heap} {locs : List Loc} (hJ : lw_J G Γ am s H locs u) (hq : RR (lw_A ax) (am : Int) (dv G Γ H) (dv G Γ H)) (kk : ∀ (u1 : Nat) (H1 : Heap) (locs1 : List Loc), lw_J G Γ am s H1 locs1 u1 → RR (lw_A ax) (am : Int) (dv G Γ H1) (dv G Γ H1) → W p l e room_1 s m #[Value.ref b] below meth c H1 locs1 (600000 - th_pc u1) (7302250 - th_pq u1) Q (F0 m 1239 ls [])) : W p l e room_1 s m #[Value.ref b] below meth c H locs (600000 - th_pc u) (7302250 - th_pq u) Q (F0 m 894 ls []) := by
  have hx := hE.1.1
  have hb := hE.1.2.1
  have hax := hE.2.2.2.2.2.1
  have ham := hE.2.2.2.2.2.2.1
  have hU := hk.1
  have hA := hk.2
  refine lv_aload_n hx hb dL_law_894 rfl (lv_at hl 2 rfl) ?_
  refine lw_ld (pc := 895) (kn := 1) (pc' := 900) hE hJ.2.2.2 hl hn hL dL_law_895 rfl dL_law_896 rfl dL_law_897 (by decide) (by decide) rfl dL_law_898 rfl dL_law_899 rfl ?_
  refine lw_call (pc' := 903) (k := 1) (P := (fun w K => ∃ r : Int32, w = .int r ∧ f_X11_fitting (dv G Γ H) (ax : Int) (xs (n + 1)).toInt = ((dv G Γ K), r.toInt) ∧ cf (lw_A ax) cs_L (dv G Γ H) (dv G Γ K) ∧ wf (am : Int) nW (dv G Γ H) (dv G Γ K))) hJ (th_runV (As := [.int (xs (n + 1))]) (rest := []) hE.1 mf_X11_fitting kl_131 im_X11_fitting se_X11_fitting (c_X11_fitting l G Γ H hJ.1 hJ.2.1.1 hU ax hax (xs (n + 1))) rfl rfl ⟨Nat.le_of_ble_eq_true rfl, Nat.le_of_ble_eq_true rfl⟩ hJ.1 hax ro_42 rfl rfl hl.1 rfl (Nat.le_of_ble_eq_true rfl) dL_law_900 ⟨lw_f1 _, lw_f2 _⟩) (fun v K hp => by obtain ⟨r, rfl, hI1, hF1, hR1, hf1⟩ := hp; exact ⟨_, rfl, rfl, hI1, th_RN_c hR1 hJ.2.1 hI1 ham hF1 (by decide), th_bits_F hF1 hJ.2.2.1 (by decide), ⟨r, rfl, hf1, lw_cf hJ.1 hI1 hF1 hA (by decide +kernel), lw_wf hJ.1 hI1 hF1 ham (by decide +kernel)⟩⟩) rfl (fun w1 H1 locs hc1 hJ1 hP1 => ?_)
  obtain ⟨r1, rfl, e1, f1, g1⟩ := hP1
  refine lv_pop hx hb dL_law_903 hc1 ?_
  refine lv_aload_n hx hb dL_law_904 rfl (lv_at hl 1 rfl) ?_
  refine lw_ld (pc := 905) (kn := 1) (pc' := 910) hE hJ1.2.2.2 hl hn hL dL_law_905 rfl dL_law_906 rfl dL_law_907 (by decide) (by decide) rfl dL_law_908 rfl dL_law_909 rfl ?_
  refine lw_call (pc' := 913) (k := 1) (P := (fun w K => ∃ r : Int32, w = .int r ∧ f_X12_fitting (dv G Γ H1) (am : Int) (xs (n + 1)).toInt = ((dv G Γ K), r.toInt) ∧ cf (lw_A ax) nV (dv G Γ H1) (dv G Γ K))) hJ1 (th_runV (As := [.int (xs (n + 1))]) (rest := []) hE.1 mf_X12_fitting kl_134 im_X12_fitting se_X12_fitting (c_X12_fitting l G Γ H1 hJ1.1 hU am ham (th_NK hJ1.2.1) (xs (n + 1))) rfl rfl ⟨Nat.le_of_ble_eq_true rfl, Nat.le_of_ble_eq_true rfl⟩ hJ1.1 ham ro_46 rfl rfl hl.1 rfl (Nat.le_of_ble_eq_true rfl) dL_law_910 ⟨lw_f1 _, lw_f2 _⟩) (fun v K hp => by obtain ⟨r, rfl, hI1, hF1, hR1, hf1⟩ := hp; exact ⟨_, rfl, rfl, hI1, th_RN_c hR1.1 hJ1.2.1 hI1 ham hF1 (by decide), th_bits_F hF1 hJ1.2.2.1 (by decide), ⟨r, rfl, hf1, lw_cf hJ1.1 hI1 hF1 hA (by decide +kernel)⟩⟩) rfl (fun w2 H2 locs hc2 hJ2 hP2 => ?_)
  obtain ⟨r2, rfl, e2, f2⟩ := hP2
  refine lv_pop hx hb dL_law_913 hc2 ?_
  have hq1 := glue_C hq f1 (lw_kwA hJ1.1 hA) g1
  have hg := glue_S (fW := fun V => f_X12_fitting V (am : Int) (xs (n + 1)).toInt) hq1 (sk_of (fW := fun V => f_X12_fitting V (am : Int) (xs (n + 1)).toInt) (F_fitting (RR_JX hq1))) e2 f2
  exact lv_goto (tgt := 1239) hx hb dL_law_914 (by decide) (kk u _ locs hJ2 hg)

set_option maxHeartbeats 4000000 in
set_option maxRecDepth 100000 in
theorem lw_c29 {p : Program} {e : Env} {s : State} {m : MethodId} {below : List Frame} {meth : Method} {c : Code} {Q : State → Prop} {G : th_G} {Γ : th_Ga} {ax am b L n : Nat} {xs : Nat → Int32} {ls : Array Slot} (l : Launch) (hE : lw_E p s m c b L xs G Γ ax am) (hL : L ≤ 384) (hn : n + 6 ≤ L) (hl : lv_has ls 4 [(3, .int (nI n)), (2, .ref am), (1, .ref ax), (0, .ref b)]) (hk : dv_U Γ ∧ lw_AR Γ ax) {u : Nat} {H : Heap} {locs : List Loc} (hJ : lw_J G Γ am s H locs u) (hq : RR (lw_A ax) (am : Int) (dv G Γ H) (dv G Γ H)) (kk : ∀ (u1 : Nat) (H1 : Heap) (locs1 : List Loc), lw_J G Γ am s H1 locs1 u1 → RR (lw_A ax) (am : Int) (dv G Γ H1) (dv G Γ H1) → W p l e room_1 s m #[Value.ref b] below meth c H1 locs1 (600000 - th_pc u1) (7302250 - th_pq u1) Q (F0 m 1239 ls [])) : W p l e room_1 s m #[Value.ref b] below meth c H locs (600000 - th_pc u) (7302250 - th_pq u) Q (F0 m 917 ls []) := by
  have hx := hE.1.1
  have hb := hE.1.2.1
  have hax := hE.2.2.2.2.2.1
  have ham := hE.2.2.2.2.2.2.1
  have hU := hk.1
  have hA := hk.2
  refine lv_aload_n hx hb dL_law_917 rfl (lv_at hl 2 rfl) ?_
  refine lw_call (pc' := 921) (k := 1) (P := (fun w K => ∃ r : Int32, w = .int r ∧ f_X11_alike (dv G Γ H) (ax : Int) = (r.toInt, ()) ∧ H = K)) hJ (th_runV (As := []) (rest := []) hE.1 mf_X11_alike kl_135 im_X11_alike se_X11_alike (c_X11_alike l G Γ H hJ.1 hU ax hax) rfl rfl ⟨Nat.le_of_ble_eq_true rfl, Nat.le_of_ble_eq_true rfl⟩ hJ.1 hax ro_42 rfl rfl hl.1 rfl (Nat.le_of_ble_eq_true rfl) dL_law_918 ⟨lw_f1 _, lw_f2 _⟩) (fun v K hp => by obtain ⟨r, rfl, hf1, rfl⟩ := hp; exact ⟨_, rfl, rfl, hJ.1, hJ.2.1, hJ.2.2.1, ⟨r, rfl, hf1, rfl⟩⟩) rfl (fun w1 H1 locs hc1 hJ1 hP1 => ?_)
  obtain ⟨r1, rfl, e1, eK1⟩ := hP1
  rw [eK1] at e1 hq
  refine lv_pop hx hb dL_law_921 hc1 ?_
  refine lv_aload_n hx hb dL_law_922 rfl (lv_at hl 1 rfl) ?_
  refine lw_call (pc' := 926) (k := 1) (P := (fun w K => ∃ r : Int32, w = .int r ∧ f_X12_alike (dv G Γ H1) (am : Int) = (r.toInt, ()) ∧ H1 = K)) hJ1 (th_runV (As := []) (rest := []) hE.1 mf_X12_alike kl_138 im_X12_alike se_X12_alike (c_X12_alike l G Γ H1 hJ1.1 hU am ham) rfl rfl ⟨Nat.le_of_ble_eq_true rfl, Nat.le_of_ble_eq_true rfl⟩ hJ1.1 ham ro_46 rfl rfl hl.1 rfl (Nat.le_of_ble_eq_true rfl) dL_law_923 ⟨lw_f1 _, lw_f2 _⟩) (fun v K hp => by obtain ⟨r, rfl, hf1, rfl⟩ := hp; exact ⟨_, rfl, rfl, hJ1.1, hJ1.2.1, hJ1.2.2.1, ⟨r, rfl, hf1, rfl⟩⟩) rfl (fun w2 H2 locs hc2 hJ2 hP2 => ?_)
  obtain ⟨r2, rfl, e2, eK2⟩ := hP2
  refine lv_pop hx hb dL_law_926 hc2 ?_
  rw [eK2] at hq
  exact lv_goto (tgt := 1239) hx hb dL_law_927 (by decide) (kk u _ locs hJ2 hq)

set_option maxHeartbeats 4000000 in
set_option maxRecDepth 100000 in
theorem lw_c30 {p : Program} {e : Env} {s : State} {m : MethodId} {below : List Frame} {meth : Method} {c : Code} {Q : State → Prop} {G : th_G} {Γ : th_Ga} {ax am b L n : Nat} {xs : Nat → Int32} {ls : Array Slot} (l : Launch) (hE : lw_E p s m c b L xs G Γ ax am) (hL : L ≤ 384) (hn : n + 6 ≤ L) (hl : lv_has ls 4 [(3, .int (nI n)), (2, .ref am), (1, .ref ax), (0, .ref b)]) (hk : dv_U Γ ∧ lw_AR Γ ax) {u : Nat} {H : Heap} {locs : List Loc} (hJ : lw_J G Γ am s H locs u) (hq : RR (lw_A ax) (am : Int) (dv G Γ H) (dv G Γ H)) (kk : ∀ (u1 : Nat) (H1 : Heap) (locs1 : List Loc), lw_J G Γ am s H1 locs1 u1 → RR (lw_A ax) (am : Int) (dv G Γ H1) (dv G Γ H1) → W p l e room_1 s m #[Value.ref b] below meth c H1 locs1 (600000 - th_pc u1) (7302250 - th_pq u1) Q (F0 m 1239 ls [])) : W p l e room_1 s m #[Value.ref b] below meth c H locs (600000 - th_pc u) (7302250 - th_pq u) Q (F0 m 930 ls []) := by
  have hx := hE.1.1
  have hb := hE.1.2.1
  have hax := hE.2.2.2.2.2.1
  have ham := hE.2.2.2.2.2.2.1
  have hU := hk.1
  have hA := hk.2
  refine lv_aload_n hx hb dL_law_930 rfl (lv_at hl 2 rfl) ?_
  refine lw_callb (pc' := 934) (k := 1) (P := (fun w K => ∃ r : Int32, w = .int r ∧ cf (lw_A ax) cs_L (dv G Γ H) (dv G Γ K) ∧ wf (am : Int) nW (dv G Γ H) (dv G Γ K))) hJ (th_runV (As := []) (rest := []) hE.1 mf_X11_free kl_139 im_X11_free se_X11_free (c_X11_free_k l G Γ H hJ.1 hJ.2.1.1 hU ax hax (ax + 42) (hA 8 (by decide) rfl) (lw_shR hJ.1 hax hq) u hJ.2.2.1) rfl rfl ⟨Nat.le_of_ble_eq_true rfl, Nat.le_of_ble_eq_true rfl⟩ hJ.1 hax ro_42 rfl rfl hl.1 rfl (Nat.le_of_ble_eq_true rfl) dL_law_931 ⟨lw_f3 hJ.2.2.1.1, lw_f4 hJ.2.2.1.1⟩) (fun v K hp => by obtain ⟨r, rfl, hI1, hF1, hR1, hkv, hbp⟩ := hp; exact ⟨_, rfl, rfl, hI1, th_RN_c hR1 hJ.2.1 hI1 ham hF1 (by decide), hbp, ⟨r, rfl, lw_cfk hJ.1 hI1 hF1 hA hkv (by decide +kernel), lw_wf hJ.1 hI1 hF1 ham (by decide +kernel)⟩⟩) rfl (fun u1 w1 H1 locs hc1 hJ1 hP1 => ?_)
  obtain ⟨r1, rfl, f1, g1⟩ := hP1
  refine lv_pop hx hb dL_law_934 hc1 ?_
  refine lv_aload_n hx hb dL_law_935 rfl (lv_at hl 1 rfl) ?_
  refine lw_call (pc' := 939) (k := 1) (P := (fun w K => ∃ r : Int32, w = .int r ∧ f_X12_free (dv G Γ H1) (am : Int) = ((dv G Γ K), r.toInt) ∧ cf (lw_A ax) nV (dv G Γ H1) (dv G Γ K))) hJ1 (th_runV (As := []) (rest := []) hE.1 mf_X12_free kl_142 im_X12_free se_X12_free (c_X12_free l G Γ H1 hJ1.1 hU am ham hJ1.2.1) rfl rfl ⟨Nat.le_of_ble_eq_true rfl, Nat.le_of_ble_eq_true rfl⟩ hJ1.1 ham ro_46 rfl rfl hl.1 rfl (Nat.le_of_ble_eq_true rfl) dL_law_936 ⟨lw_f1 _, lw_f2 _⟩) (fun v K hp => by obtain ⟨r, rfl, hI1, hF1, hR1, hf1⟩ := hp; exact ⟨_, rfl, rfl, hI1, hR1, th_bits_F hF1 hJ1.2.2.1 (by decide), ⟨r, rfl, hf1, lw_cf hJ1.1 hI1 hF1 hA (by decide +kernel)⟩⟩) rfl (fun w2 H2 locs hc2 hJ2 hP2 => ?_)
  obtain ⟨r2, rfl, e2, f2⟩ := hP2
  refine lv_pop hx hb dL_law_939 hc2 ?_
  have hq1 := glue_C hq f1 (lw_kwA hJ1.1 hA) g1
  have hg := glue_S (fW := fun V => f_X12_free V (am : Int)) hq1 (F_free hq1) e2 f2
  exact lv_goto (tgt := 1239) hx hb dL_law_940 (by decide) (kk u1 _ locs hJ2 hg)

set_option maxHeartbeats 4000000 in
set_option maxRecDepth 100000 in
theorem lw_c31 {p : Program} {e : Env} {s : State} {m : MethodId} {below : List Frame} {meth : Method} {c : Code} {Q : State → Prop} {G : th_G} {Γ : th_Ga} {ax am b L n : Nat} {xs : Nat → Int32} {ls : Array Slot} (l : Launch) (hE : lw_E p s m c b L xs G Γ ax am) (hL : L ≤ 384) (hn : n + 6 ≤ L) (hl : lv_has ls 4 [(3, .int (nI n)), (2, .ref am), (1, .ref ax), (0, .ref b)]) (hk : dv_U Γ ∧ lw_AR Γ ax) {u : Nat} {H : Heap} {locs : List Loc} (hJ : lw_J G Γ am s H locs u) (hq : RR (lw_A ax) (am : Int) (dv G Γ H) (dv G Γ H)) (kk : ∀ (u1 : Nat) (H1 : Heap) (locs1 : List Loc), lw_J G Γ am s H1 locs1 u1 → RR (lw_A ax) (am : Int) (dv G Γ H1) (dv G Γ H1) → W p l e room_1 s m #[Value.ref b] below meth c H1 locs1 (600000 - th_pc u1) (7302250 - th_pq u1) Q (F0 m 1239 ls [])) : W p l e room_1 s m #[Value.ref b] below meth c H locs (600000 - th_pc u) (7302250 - th_pq u) Q (F0 m 943 ls []) := by
  have hx := hE.1.1
  have hb := hE.1.2.1
  have hax := hE.2.2.2.2.2.1
  have ham := hE.2.2.2.2.2.2.1
  have hU := hk.1
  have hA := hk.2
  refine lv_aload_n hx hb dL_law_943 rfl (lv_at hl 2 rfl) ?_
  refine lw_ld (pc := 944) (kn := 1) (pc' := 949) hE hJ.2.2.2 hl hn hL dL_law_944 rfl dL_law_945 rfl dL_law_946 (by decide) (by decide) rfl dL_law_947 rfl dL_law_948 rfl ?_
  refine lw_ld (pc := 949) (kn := 2) (pc' := 954) hE hJ.2.2.2 hl hn hL dL_law_949 rfl dL_law_950 rfl dL_law_951 (by decide) (by decide) rfl dL_law_952 rfl dL_law_953 rfl ?_
  refine lw_ld (pc := 954) (kn := 3) (pc' := 959) hE hJ.2.2.2 hl hn hL dL_law_954 rfl dL_law_955 rfl dL_law_956 (by decide) (by decide) rfl dL_law_957 rfl dL_law_958 rfl ?_
  refine lw_call (pc' := 962) (k := 1) (P := (fun w K => ∃ r : Int32, w = .int r ∧ f_X11_seen (dv G Γ H) (ax : Int) (xs (n + 1)).toInt (xs (n + 2)).toInt (xs (n + 3)).toInt = ((dv G Γ K), r.toInt) ∧ wf (am : Int) nW (dv G Γ H) (dv G Γ K))) hJ (th_runV (As := [.int (xs (n + 1)), .int (xs (n + 2)), .int (xs (n + 3))]) (rest := []) hE.1 mf_X11_seen kl_143 im_X11_seen se_X11_seen (c_X11_seen l G Γ H hJ.1 hJ.2.1.1 hU ax hax (xs (n + 1)) (xs (n + 2)) (xs (n + 3))) rfl rfl ⟨Nat.le_of_ble_eq_true rfl, Nat.le_of_ble_eq_true rfl⟩ hJ.1 hax ro_42 rfl rfl hl.1 rfl (Nat.le_of_ble_eq_true rfl) dL_law_959 ⟨lw_f1 _, lw_f2 _⟩) (fun v K hp => by obtain ⟨r, rfl, hI1, hF1, hR1, hf1⟩ := hp; exact ⟨_, rfl, rfl, hI1, th_RN_c hR1 hJ.2.1 hI1 ham hF1 (by decide), th_bits_F hF1 hJ.2.2.1 (by decide), ⟨r, rfl, hf1, lw_wf hJ.1 hI1 hF1 ham (by decide +kernel)⟩⟩) rfl (fun w1 H1 locs hc1 hJ1 hP1 => ?_)
  obtain ⟨r1, rfl, e1, g1⟩ := hP1
  refine lv_pop hx hb dL_law_962 hc1 ?_
  refine lv_aload_n hx hb dL_law_963 rfl (lv_at hl 1 rfl) ?_
  refine lw_ld (pc := 964) (kn := 1) (pc' := 969) hE hJ1.2.2.2 hl hn hL dL_law_964 rfl dL_law_965 rfl dL_law_966 (by decide) (by decide) rfl dL_law_967 rfl dL_law_968 rfl ?_
  refine lw_ld (pc := 969) (kn := 2) (pc' := 974) hE hJ1.2.2.2 hl hn hL dL_law_969 rfl dL_law_970 rfl dL_law_971 (by decide) (by decide) rfl dL_law_972 rfl dL_law_973 rfl ?_
  refine lw_ld (pc := 974) (kn := 3) (pc' := 979) hE hJ1.2.2.2 hl hn hL dL_law_974 rfl dL_law_975 rfl dL_law_976 (by decide) (by decide) rfl dL_law_977 rfl dL_law_978 rfl ?_
  refine lw_call (pc' := 982) (k := 1) (P := (fun w K => ∃ r : Int32, w = .int r ∧ f_X12_seen (dv G Γ H1) (am : Int) (xs (n + 1)).toInt (xs (n + 2)).toInt (xs (n + 3)).toInt = ((dv G Γ K), r.toInt) ∧ cf (lw_A ax) nV (dv G Γ H1) (dv G Γ K))) hJ1 (th_runV (As := [.int (xs (n + 1)), .int (xs (n + 2)), .int (xs (n + 3))]) (rest := []) hE.1 mf_X12_seen kl_146 im_X12_seen se_X12_seen (c_X12_seen l G Γ H1 hJ1.1 hU am ham hJ1.2.1 (xs (n + 1)) (xs (n + 2)) (xs (n + 3))) rfl rfl ⟨Nat.le_of_ble_eq_true rfl, Nat.le_of_ble_eq_true rfl⟩ hJ1.1 ham ro_46 rfl rfl hl.1 rfl (Nat.le_of_ble_eq_true rfl) dL_law_979 ⟨lw_f1 _, lw_f2 _⟩) (fun v K hp => by obtain ⟨r, rfl, hI1, hF1, hR1, hf1⟩ := hp; exact ⟨_, rfl, rfl, hI1, hR1, th_bits_F hF1 hJ1.2.2.1 (by decide), ⟨r, rfl, hf1, lw_cf hJ1.1 hI1 hF1 hA (by decide +kernel)⟩⟩) rfl (fun w2 H2 locs hc2 hJ2 hP2 => ?_)
  obtain ⟨r2, rfl, e2, f2⟩ := hP2
  refine lv_pop hx hb dL_law_982 hc2 ?_
  have hg := glue (r1 := r1.toInt) (r2 := r2.toInt) (fV := fun V => f_X11_seen V (lw_A ax 0) (xs (n + 1)).toInt (xs (n + 2)).toInt (xs (n + 3)).toInt) (fW := fun V => f_X12_seen V (am : Int) (xs (n + 1)).toInt (xs (n + 2)).toInt (xs (n + 3)).toInt) hq (fun V h => L_seen h) (by rw [lw_A0]; exact e1) g1 e2 f2
  exact lv_goto (tgt := 1239) hx hb dL_law_983 (by decide) (kk u _ locs hJ2 hg.2)

set_option maxHeartbeats 4000000 in
set_option maxRecDepth 100000 in
theorem lw_c32 {p : Program} {e : Env} {s : State} {m : MethodId} {below : List Frame} {meth : Method} {c : Code} {Q : State → Prop} {G : th_G} {Γ : th_Ga} {ax am b L n : Nat} {xs : Nat → Int32} {ls : Array Slot} (l : Launch) (hE : lw_E p s m c b L xs G Γ ax am) (hL : L ≤ 384) (hn : n + 6 ≤ L) (hl : lv_has ls 4 [(3, .int (nI n)), (2, .ref am), (1, .ref ax), (0, .ref b)]) (hk : dv_U Γ ∧ lw_AR Γ ax) {u : Nat} {H : Heap} {locs : List Loc} (hJ : lw_J G Γ am s H locs u) (hq : RR (lw_A ax) (am : Int) (dv G Γ H) (dv G Γ H)) (kk : ∀ (u1 : Nat) (H1 : Heap) (locs1 : List Loc), lw_J G Γ am s H1 locs1 u1 → RR (lw_A ax) (am : Int) (dv G Γ H1) (dv G Γ H1) → W p l e room_1 s m #[Value.ref b] below meth c H1 locs1 (600000 - th_pc u1) (7302250 - th_pq u1) Q (F0 m 1239 ls [])) : W p l e room_1 s m #[Value.ref b] below meth c H locs (600000 - th_pc u) (7302250 - th_pq u) Q (F0 m 986 ls []) := by
  have hx := hE.1.1
  have hb := hE.1.2.1
  have hax := hE.2.2.2.2.2.1
  have ham := hE.2.2.2.2.2.2.1
  have hU := hk.1
  have hA := hk.2
  refine lv_aload_n hx hb dL_law_986 rfl (lv_at hl 2 rfl) ?_
  refine lw_call (pc' := 990) (k := 1) (P := (fun w K => ∃ r : Int32, w = .int r ∧ f_X11_forget (dv G Γ H) (ax : Int) = ((dv G Γ K), r.toInt) ∧ wf (am : Int) nW (dv G Γ H) (dv G Γ K))) hJ (th_runV (As := []) (rest := []) hE.1 mf_X11_forget kl_147 im_X11_forget se_X11_forget (c_X11_forget l G Γ H hJ.1 hJ.2.1.1 hU ax hax) rfl rfl ⟨Nat.le_of_ble_eq_true rfl, Nat.le_of_ble_eq_true rfl⟩ hJ.1 hax ro_42 rfl rfl hl.1 rfl (Nat.le_of_ble_eq_true rfl) dL_law_987 ⟨lw_f1 _, lw_f2 _⟩) (fun v K hp => by obtain ⟨r, rfl, hI1, hF1, hR1, hf1⟩ := hp; exact ⟨_, rfl, rfl, hI1, th_RN_c hR1 hJ.2.1 hI1 ham hF1 (by decide), th_bits_F hF1 hJ.2.2.1 (by decide), ⟨r, rfl, hf1, lw_wf hJ.1 hI1 hF1 ham (by decide +kernel)⟩⟩) rfl (fun w1 H1 locs hc1 hJ1 hP1 => ?_)
  obtain ⟨r1, rfl, e1, g1⟩ := hP1
  refine lv_pop hx hb dL_law_990 hc1 ?_
  refine lv_aload_n hx hb dL_law_991 rfl (lv_at hl 1 rfl) ?_
  refine lw_call (pc' := 995) (k := 1) (P := (fun w K => ∃ r : Int32, w = .int r ∧ f_X12_forget (dv G Γ H1) (am : Int) = ((dv G Γ K), r.toInt) ∧ cf (lw_A ax) nV (dv G Γ H1) (dv G Γ K))) hJ1 (th_runV (As := []) (rest := []) hE.1 mf_X12_forget kl_150 im_X12_forget se_X12_forget (c_X12_forget l G Γ H1 hJ1.1 hU am ham hJ1.2.1) rfl rfl ⟨Nat.le_of_ble_eq_true rfl, Nat.le_of_ble_eq_true rfl⟩ hJ1.1 ham ro_46 rfl rfl hl.1 rfl (Nat.le_of_ble_eq_true rfl) dL_law_992 ⟨lw_f1 _, lw_f2 _⟩) (fun v K hp => by obtain ⟨r, rfl, hI1, hF1, hR1, hf1⟩ := hp; exact ⟨_, rfl, rfl, hI1, hR1, th_bits_F hF1 hJ1.2.2.1 (by decide), ⟨r, rfl, hf1, lw_cf hJ1.1 hI1 hF1 hA (by decide +kernel)⟩⟩) rfl (fun w2 H2 locs hc2 hJ2 hP2 => ?_)
  obtain ⟨r2, rfl, e2, f2⟩ := hP2
  refine lv_pop hx hb dL_law_995 hc2 ?_
  have hg := glue (r1 := r1.toInt) (r2 := r2.toInt) (fV := fun V => f_X11_forget V (lw_A ax 0)) (fW := fun V => f_X12_forget V (am : Int)) hq (fun V h => L_forget h) (by rw [lw_A0]; exact e1) g1 e2 f2
  exact lv_goto (tgt := 1239) hx hb dL_law_996 (by decide) (kk u _ locs hJ2 hg.2)
